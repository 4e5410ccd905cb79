abbrev rm_X8_set : Room := { frames := 4, cells := 1, slots := 4, locals := 91 }
theorem hd_X8_set : yX8_set.cls = RX8 ∧ yX8_set.cls ≠ "java/lang/invoke/MethodHandle" ∧ yX8_set.cls ≠ "java/lang/invoke/VarHandle" ∧ (parseMethodDescriptor yX8_set.desc).map (fun d => d.parameters.length) = some 2 := by decide +kernel
set_option maxRecDepth 100000 in
set_option maxHeartbeats 4000000 in
theorem k_X8_set {D : va_G} {dT : Nat → ClassId} {Z : ZT} {ad : Nat → Nat} (M : Nat → Nat → Int32) (S : SZ) (hS : WS S) (hw1 : M 1 2 = nI S.1) (hw2 : M 2 2 = nI S.2.1) (hw3 : M 3 2 = nI S.2.2.1) (w n : Int32) : ∀ l8, BI l8 yX8_set wsX8_set rm_X8_set D (tyl dT) Z ad (mL S) (pf dT mK mN M (mR S) ad) [.ref (ad 0), .int w, .int n] 1 4 (fun r u => (∃ ad2, AGm (mL S) ad ad2 ∧ u = (ad2, mL S, mf dT ad2 (if seC w n = 0 then up2 (up2 M 0 15 0) 5 (ixS 1 w).toNatClampNeg n else up2 M 0 15 (seC w n)) S)) ∧ (if seC w n = 0 then M 5 (ixS 1 w).toNatClampNeg else 0) = r) := by
  intro l9
  refine bi_of (own := RX8) (cc := cX8_set) (maxL := 5) (some .int) [(0, .ref (ad 0)), (1, .int w), (2, .int n)] (by decide) rfl rfl rfl (Nat.le_of_ble_eq_true rfl) ?_
  intro X hX hE hN hM
  have q_w1 : Cond.arrayClass .int ∈ wsX8_set := List.mem_of_getElem? (i := 1) rfl
  have q_w2 : Cond.methodLink RX8 147 Lib.Math.max.name ∈ wsX8_set := List.mem_of_getElem? (i := 2) rfl
  have q_w3 : Cond.static Lib.Math.max.name ∈ wsX8_set := List.mem_of_getElem? (i := 3) rfl
  have q_w4 : Cond.initialized "java/lang/Math" ∈ wsX8_set := List.mem_of_getElem? (i := 4) rfl
  have q_w5 : Cond.code Lib.Math.max.name Lib.Math.max.code 2 (some .int) ∈ wsX8_set := List.mem_of_getElem? (i := 5) rfl
  have q_w6 : Cond.fieldLink RX8 28 "PerforatumModel" "told" "[I" ∈ wsX8_set := List.mem_of_getElem? (i := 6) rfl
  have q_inX8 : ∀ w ∈ wsX80, w ∈ wsX8_set := by decide +kernel
  have hS1 := hS.1
  have hS2 := hS.2.1
  have hS3 := hS.2.2.1
  refine b_ldcS hX hM rfl 1 (by decide) rfl dX8_set_0 ?_
  refine g_iload_n hX 1 rfl dX8_set_2 rfl ?_
  refine b_callI_VS hX hM (i := 1) (by decide) [.int w] (k_J0_indexOf_0f7a4 1 (by decide) w) gX8_set_J0_indexOf_0f7a4 rfl rfl rfl hd_J0_indexOf_0f7a4 ⟨Nat.le_of_ble_eq_true rfl, Nat.le_of_ble_eq_true rfl⟩ ⟨Nat.le_of_ble_eq_true rfl, Nat.le_of_ble_eq_true rfl⟩ rfl (Nat.le_of_ble_eq_true rfl) dX8_set_3 (fun r9 ad9 L9 f9 hp9 => ?_)
  obtain ⟨he9, hr9⟩ := hp9
  cases he9
  subst hr9
  refine g_eqi (y := ixS 1 w) rfl ?_
  refine g_istore_n hX [(3, .int (ixS 1 w)), (0, .ref (ad 0)), (1, .int w), (2, .int n)] rfl dX8_set_6 rfl (by decide) ?_
  refine g_aload_n hX 1 rfl dX8_set_7 rfl ?_
  refine g_iload_n hX 0 rfl dX8_set_8 rfl ?_
  refine g_if_lt (tgt := 54) hX dX8_set_9 (by decide) (fun c_9 => ?_) (fun c_9 => ?_)
  · refine g_iconst hX (0) dX8_set_54 rfl ?_
    refine g_iconst hX (1) dX8_set_55 rfl ?_
    refine b_callI_V hX hM (b := 0) [.int 0, .int 1] (m_lo (by decide)) (pf_obj rfl (by decide)) rfl (k_X8_no (m_lo (by decide)) rfl 0 1) gX8_set_X8_no rfl rfl rfl hd_X8_no ⟨Nat.le_of_ble_eq_true rfl, Nat.le_of_ble_eq_true rfl⟩ ⟨Nat.le_of_ble_eq_true rfl, Nat.le_of_ble_eq_true rfl⟩ rfl (Nat.le_of_ble_eq_true rfl) dX8_set_56 (fun r9 ad9 L9 f9 hp9 => ?_)
    obtain ⟨he9, hr9⟩ := hp9
    cases he9
    subst hr9
    rw [show (if (0 : Int32) = 0 then (1 : Int32) else 0) = 1 from by decide]
    refine g_eqi (y := 1) (by decide) ?_
    refine g_if_eq (tgt := 64) hX dX8_set_59 (by decide) (fun c_59 => ?_) (fun c_59 => ?_)
    · first | exact absurd c_59 (by decide) | exact absurd (by decide) c_59
    · refine g_iconst hX (0) dX8_set_62 rfl ?_
      refine b_iret hX hE dX8_set_63 (by omega) (by omega) ?_
      exact ⟨⟨_, AGm_rf, congrArg (fun z => (ad, mL S, mf dT ad z S)) (by simp [up2_ss, seC, c_9])⟩, by simp [seC, c_9]⟩
  · obtain ⟨k, hk, hik⟩ := ix_lt (i := 1) (by decide) c_9
    have hk4 : k < 4 := hk
    refine g_lvs (lv2 := [(3, .int (nI k)), (0, .ref (ad 0)), (1, .int w), (2, .int n)]) (st2 := [.ref (ad 0)]) (by rw [hik]) rfl ?_
    refine g_iload_n hX 3 rfl dX8_set_12 rfl ?_
    refine g_iconst hX (0) dX8_set_13 rfl ?_
    refine g_iconst hX (4) dX8_set_14 rfl ?_
    refine g_f (g := pf dT mK mN (upr M 11 (fun _ => 0)) (mR S) ad) (fun i hi => pf_I (upr_n (show i ≠ 11 from fun h => (f_lo (by decide) (by decide) hS) (h ▸ hi))).symm) ?_
    refine g_newI hX 11 (f_lo (by decide) (by decide) hS) (mR_no hS (f_lo (by decide) (by decide) hS) (by omega)) 4 rfl rfl (fun k9 => congrFun upr_s k9) (x := 4) rfl (by decide) q_w1 (Nat.le_of_ble_eq_true rfl) (Nat.le_of_ble_eq_true rfl) dX8_set_15 (fun qn1 => ?_)
    obtain ⟨a2, ha2⟩ : ∃ z9, z9 = va_up ad 11 qn1 := ⟨_, rfl⟩
    have ga2 : ∀ i, i ∈ (mL S) → a2 i = ad i := fun i hi => by rw [ha2]; exact va_up_ne _ _ (fun h => (f_lo (by decide) (by decide) hS) (h ▸ hi))
    rw [← ha2]
    refine g_lvs (lv2 := [(3, .int (nI k)), (0, .ref (a2 0)), (1, .int w), (2, .int n)]) (st2 := [.ref (a2 11), .int 0, .int n, .ref (a2 0)]) (by rw [ga2 0 (m_lo (by decide))]) (by rw [ga2 0 (m_lo (by decide))]) ?_
    have aga2 : AGm (mL S) ad a2 := by rw [ha2]; exact AGm_new AGm_rf (f_lo (by decide) (by decide) hS) (by omega)
    refine g_dup hX dX8_set_17 rfl ?_
    refine g_iconst hX (0) dX8_set_18 rfl ?_
    refine g_iconst hX (3) dX8_set_19 rfl ?_
    refine h_iast (i := 11) hX 0 rfl (by show _ < (4 : Nat); omega) (by decide) (List.mem_append_right _ (List.mem_singleton.mpr rfl)) rfl dX8_set_20 ?_
    refine g_dup hX dX8_set_21 rfl ?_
    refine g_iconst hX (1) dX8_set_22 rfl ?_
    refine g_sipush hX (999) dX8_set_23 rfl ?_
    refine h_iast (i := 11) hX 1 rfl (by show _ < (4 : Nat); omega) (by decide) (List.mem_append_right _ (List.mem_singleton.mpr rfl)) rfl dX8_set_26 ?_
    refine g_dup hX dX8_set_27 rfl ?_
    refine g_iconst hX (2) dX8_set_28 rfl ?_
    refine g_sipush hX (300) dX8_set_29 rfl ?_
    refine h_iast (i := 11) hX 2 rfl (by show _ < (4 : Nat); omega) (by decide) (List.mem_append_right _ (List.mem_singleton.mpr rfl)) rfl dX8_set_32 ?_
    refine g_dup hX dX8_set_33 rfl ?_
    refine g_iconst hX (3) dX8_set_34 rfl ?_
    refine g_bipush hX (99) dX8_set_35 rfl ?_
    refine h_iast (i := 11) hX 3 rfl (by show _ < (4 : Nat); omega) (by decide) (List.mem_append_right _ (List.mem_singleton.mpr rfl)) rfl dX8_set_37 ?_
    refine g_iconst hX (0) dX8_set_38 rfl ?_
    refine g_iload_n hX 0 rfl dX8_set_39 rfl ?_
    refine g_mmax hX q_w2 q_w3 q_w4 q_w5 (Nat.le_of_ble_eq_true rfl) (Nat.le_of_ble_eq_true rfl) (Nat.le_of_ble_eq_true rfl) (Nat.le_of_ble_eq_true rfl) dX8_set_40 ?_
    refine g_eqi (y := nI k) (mx0 hk4) ?_
    refine h_iald (i := 11) hX k rfl (by show _ < (4 : Nat); omega) (by decide) (List.mem_append_right _ (List.mem_singleton.mpr rfl)) rfl dX8_set_43 ?_
    refine g_eqi (y := gtab k) (gt_eq hk4) ?_
    refine b_callI_S hX hM [.int n, .int 0, .int (gtab k)] (k_X8_isIn n 0 (gtab k)) gX8_set_X8_isIn rfl rfl rfl hd_X8_isIn.2 ⟨Nat.le_of_ble_eq_true rfl, Nat.le_of_ble_eq_true rfl⟩ ⟨Nat.le_of_ble_eq_true rfl, Nat.le_of_ble_eq_true rfl⟩ rfl (Nat.le_of_ble_eq_true rfl) dX8_set_44 (fun r9 ad9 L9 f9 hp9 => ?_)
    obtain ⟨he9, hr9⟩ := hp9
    cases he9
    subst hr9
    refine g_L (L2 := mL S) (fun i hi => List.mem_append_left _ hi) mL_nd ?_
    refine g_f (g := pf dT mK mN M (mR S) a2) (fun i hi => by have hne : i ≠ 11 := (fun h => (f_lo (by decide) (by decide) hS) (h ▸ hi)); exact pf_I ((up2_row hne).trans ((up2_row hne).trans ((up2_row hne).trans ((up2_row hne).trans (upr_n hne)))))) ?_
    refine g_if_eq (tgt := 54) hX dX8_set_47 (by decide) (fun c_47 => ?_) (fun c_47 => ?_)
    · refine g_iconst hX (0) dX8_set_54 rfl ?_
      refine g_iconst hX (1) dX8_set_55 rfl ?_
      refine b_callI_V hX hM (b := 0) [.int 0, .int 1] (m_lo (by decide)) (pf_obj rfl (by decide)) rfl (k_X8_no (m_lo (by decide)) rfl 0 1) gX8_set_X8_no rfl rfl rfl hd_X8_no ⟨Nat.le_of_ble_eq_true rfl, Nat.le_of_ble_eq_true rfl⟩ ⟨Nat.le_of_ble_eq_true rfl, Nat.le_of_ble_eq_true rfl⟩ rfl (Nat.le_of_ble_eq_true rfl) dX8_set_56 (fun r9 ad9 L9 f9 hp9 => ?_)
      obtain ⟨he9, hr9⟩ := hp9
      cases he9
      subst hr9
      rw [show (if (0 : Int32) = 0 then (1 : Int32) else 0) = 1 from by decide]
      refine g_eqi (y := 1) (by decide) ?_
      refine g_if_eq (tgt := 64) hX dX8_set_59 (by decide) (fun c_59 => ?_) (fun c_59 => ?_)
      · first | exact absurd c_59 (by decide) | exact absurd (by decide) c_59
      · refine g_iconst hX (0) dX8_set_62 rfl ?_
        refine b_iret hX hE dX8_set_63 (by omega) (by omega) ?_
        exact ⟨⟨_, aga2, congrArg (fun z => (a2, mL S, mf dT a2 z S)) (by simp [up2_ss, seC, c_9, c_47, hik, show ¬ nI k < 0 from nI_pos (by omega), nI_clamp (n := k) (by omega)])⟩, by simp [seC, c_9, c_47, hik, show ¬ nI k < 0 from nI_pos (by omega), nI_clamp (n := k) (by omega)]⟩
    · refine g_iconst hX (1) dX8_set_50 rfl ?_
      refine g_goto (tgt := 55) hX dX8_set_51 (by decide) ?_
      refine g_iconst hX (1) dX8_set_55 rfl ?_
      refine b_callI_V hX hM (b := 0) [.int 1, .int 1] (m_lo (by decide)) (pf_obj rfl (by decide)) rfl (k_X8_no (m_lo (by decide)) rfl 1 1) gX8_set_X8_no rfl rfl rfl hd_X8_no ⟨Nat.le_of_ble_eq_true rfl, Nat.le_of_ble_eq_true rfl⟩ ⟨Nat.le_of_ble_eq_true rfl, Nat.le_of_ble_eq_true rfl⟩ rfl (Nat.le_of_ble_eq_true rfl) dX8_set_56 (fun r9 ad9 L9 f9 hp9 => ?_)
      obtain ⟨he9, hr9⟩ := hp9
      cases he9
      subst hr9
      rw [show (if (1 : Int32) = 0 then (1 : Int32) else 0) = 0 from by decide]
      refine g_eqi (y := 0) (by decide) ?_
      refine g_if_eq (tgt := 64) hX dX8_set_59 (by decide) (fun c_59 => ?_) (fun c_59 => ?_)
      · refine g_aload_n hX 1 rfl dX8_set_64 rfl ?_
        refine g_getRs (i := 0) hX 12 4 q_inX8 (m_lo (by decide)) rfl (by decide) rfl (by decide) rfl q_w6 rfl (j := 5) rfl dX8_set_65 ?_
        refine g_iload_n hX 0 rfl dX8_set_68 rfl ?_
        refine h_iald (i := 5) hX k rfl (by show _ < (4 : Nat); omega) (by decide) (m_lo (by decide)) rfl dX8_set_69 ?_
        refine g_eqi (y := (M 5 k)) (up2_n (Or.inl (by decide))) ?_
        refine g_istore hX [(4, .int (M 5 k)), (3, .int (nI k)), (0, .ref (a2 0)), (1, .int w), (2, .int n)] rfl dX8_set_70 (by decide) ?_
        refine g_aload_n hX 2 rfl dX8_set_72 rfl ?_
        refine g_getRs (i := 0) hX 12 4 q_inX8 (m_lo (by decide)) rfl (by decide) rfl (by decide) rfl q_w6 rfl (j := 5) rfl dX8_set_73 ?_
        refine g_iload_n hX 1 rfl dX8_set_76 rfl ?_
        refine g_iload_n hX 4 rfl dX8_set_77 rfl ?_
        refine h_iast (i := 5) hX k rfl (by show _ < (4 : Nat); omega) (by decide) (m_lo (by decide)) rfl dX8_set_78 ?_
        refine g_iload hX 0 rfl dX8_set_79 ?_
        refine b_iret hX hE dX8_set_81 (by omega) (by omega) ?_
        exact ⟨⟨_, aga2, congrArg (fun z => (a2, mL S, mf dT a2 z S)) (by simp [up2_ss, seC, c_9, c_47, hik, show ¬ nI k < 0 from nI_pos (by omega), nI_clamp (n := k) (by omega)])⟩, by simp [seC, c_9, c_47, hik, show ¬ nI k < 0 from nI_pos (by omega), nI_clamp (n := k) (by omega)]⟩
      · first | exact absurd c_59 (by decide) | exact absurd (by decide) c_59
abbrev rm_X8_roll : Room := { frames := 7, cells := 202, slots := 3410, locals := 190 }
theorem hd_X8_roll : yX8_roll.cls = RX8 ∧ yX8_roll.cls ≠ "java/lang/invoke/MethodHandle" ∧ yX8_roll.cls ≠ "java/lang/invoke/VarHandle" ∧ (parseMethodDescriptor yX8_roll.desc).map (fun d => d.parameters.length) = some 0 := by decide +kernel
set_option maxRecDepth 100000 in
set_option maxHeartbeats 4000000 in
theorem k_X8_roll {D : va_G} {dT : Nat → ClassId} {Z : ZT} {ad : Nat → Nat} (M : Nat → Nat → Int32) (S : SZ) (hS : WS S) (hw1 : M 1 2 = nI S.1) (hw2 : M 2 2 = nI S.2.1) (hw3 : M 3 2 = nI S.2.2.1) (hz : ad 99999 = Z.1) : ∀ l8, BI l8 yX8_roll wsX8_roll rm_X8_roll D (tyl dT) Z ad (mL S) (pf dT mK mN M (mR S) ad) [.ref (ad 0)] 202 3410 (fun r u => ∃ ad2, AGm (mL S) ad ad2 ∧ ((S.1 < 4 ∧ u = (ad2, mL (addS1 S), mf dT ad2 (roM (up2 M 0 15 0) S.1) (addS1 S)) ∧ nI S.1 = r) ∨ (¬ S.1 < 4 ∧ u = (ad2, mL S, mf dT ad2 (up2 M 0 15 1) S)))) := by
  intro l9
  refine bi_of (own := RX8) (cc := cX8_roll) (maxL := 1) (some .int) [(0, .ref (ad 0))] (by decide) rfl rfl rfl (Nat.le_of_ble_eq_true rfl) ?_
  intro X hX hE hN hM
  have q_w1 : Cond.fieldLink RX8 10 "PerforatumModel" "rolls" "Ljava/util/List;" ∈ wsX8_roll := List.mem_of_getElem? (i := 1) rfl
  have q_inX8 : ∀ w ∈ wsX80, w ∈ wsX8_roll := by decide +kernel
  have q_w2 : Cond.classLink RX8 68 "[[Z" ∈ wsX8_roll := List.mem_of_getElem? (i := 2) rfl
  have q_w3 : Cond.arrayClass .boolean ∈ wsX8_roll := List.mem_of_getElem? (i := 3) rfl
  have hS1 := hS.1
  have hS2 := hS.2.1
  have hS3 := hS.2.2.1
  refine g_aload_n hX 0 rfl dX8_roll_0 rfl ?_
  refine g_aload_n hX 0 rfl dX8_roll_1 rfl ?_
  refine g_getRs (i := 0) hX 12 0 q_inX8 (m_lo (by decide)) rfl (by decide) rfl (by decide) rfl q_w1 rfl (j := 1) rfl dX8_roll_2 ?_
  refine b_callI_F hX hM (b := 1) [] (m_lo (by decide)) (pf_obj rfl (by decide)) rfl (k_Jx4a65c_size_8abf5 1 (m_lo (by decide)) rfl) gX8_roll_Jx4a65c_size_8abf5_f54Jx4a65c (by decide +kernel) rfl rfl rfl hdF_size ⟨Nat.le_of_ble_eq_true rfl, Nat.le_of_ble_eq_true rfl⟩ ⟨Nat.le_of_ble_eq_true rfl, Nat.le_of_ble_eq_true rfl⟩ rfl (Nat.le_of_ble_eq_true rfl) dX8_roll_5 (fun r9 ad9 L9 f9 hp9 => ?_)
  obtain ⟨he9, hr9⟩ := hp9
  cases he9
  subst hr9
  refine g_eqi (y := (nI S.1)) hw1 ?_
  refine g_iconst hX (4) dX8_roll_10 rfl ?_
  refine g_icmp_ge (tgt := 18) hX dX8_roll_11 (by decide) (fun c_11 => ?_) (fun c_11 => ?_)
  · have c_11 : 4 ≤ S.1 := (nI_leI (a := 4) (b := S.1) (by omega) (by omega)).mp c_11
    refine g_iconst hX (0) dX8_roll_18 rfl ?_
    refine g_iconst hX (1) dX8_roll_19 rfl ?_
    refine b_callI_V hX hM (b := 0) [.int 0, .int 1] (m_lo (by decide)) (pf_obj rfl (by decide)) rfl (k_X8_no (m_lo (by decide)) rfl 0 1) gX8_roll_X8_no rfl rfl rfl hd_X8_no ⟨Nat.le_of_ble_eq_true rfl, Nat.le_of_ble_eq_true rfl⟩ ⟨Nat.le_of_ble_eq_true rfl, Nat.le_of_ble_eq_true rfl⟩ rfl (Nat.le_of_ble_eq_true rfl) dX8_roll_20 (fun r9 ad9 L9 f9 hp9 => ?_)
    obtain ⟨he9, hr9⟩ := hp9
    cases he9
    subst hr9
    rw [show (if (0 : Int32) = 0 then (1 : Int32) else 0) = 1 from by decide]
    refine g_eqi (y := 1) (by decide) ?_
    refine g_if_eq (tgt := 28) hX dX8_roll_23 (by decide) (fun c_23 => ?_) (fun c_23 => ?_)
    · first | exact absurd c_23 (by decide) | exact absurd (by decide) c_23
    · refine g_iconst hX (0) dX8_roll_26 rfl ?_
      refine b_iret hX hE dX8_roll_27 (by omega) (by omega) ?_
      exact ⟨_, AGm_rf, Or.inr ⟨by omega, rfl⟩⟩
  · have c_11 : ¬ 4 ≤ S.1 := fun h9 => c_11 ((nI_leI (a := 4) (b := S.1) (by omega) (by omega)).mpr h9)
    refine g_iconst hX (1) dX8_roll_14 rfl ?_
    refine g_goto (tgt := 19) hX dX8_roll_15 (by decide) ?_
    refine g_iconst hX (1) dX8_roll_19 rfl ?_
    refine b_callI_V hX hM (b := 0) [.int 1, .int 1] (m_lo (by decide)) (pf_obj rfl (by decide)) rfl (k_X8_no (m_lo (by decide)) rfl 1 1) gX8_roll_X8_no rfl rfl rfl hd_X8_no ⟨Nat.le_of_ble_eq_true rfl, Nat.le_of_ble_eq_true rfl⟩ ⟨Nat.le_of_ble_eq_true rfl, Nat.le_of_ble_eq_true rfl⟩ rfl (Nat.le_of_ble_eq_true rfl) dX8_roll_20 (fun r9 ad9 L9 f9 hp9 => ?_)
    obtain ⟨he9, hr9⟩ := hp9
    cases he9
    subst hr9
    rw [show (if (1 : Int32) = 0 then (1 : Int32) else 0) = 0 from by decide]
    refine g_eqi (y := 0) (by decide) ?_
    refine g_if_eq (tgt := 28) hX dX8_roll_23 (by decide) (fun c_23 => ?_) (fun c_23 => ?_)
    · refine g_aload_n hX 0 rfl dX8_roll_28 rfl ?_
      refine g_getRs (i := 0) hX 12 0 q_inX8 (m_lo (by decide)) rfl (by decide) rfl (by decide) rfl q_w1 rfl (j := 1) rfl dX8_roll_29 ?_
      refine g_sipush hX (200) dX8_roll_32 rfl ?_
      refine g_bipush hX (16) dX8_roll_35 rfl ?_
      refine b_multi hX hM (fun q => rlA ad S q) (rwL S 200) (fun q => pf dT mK mN (rwM (up2 M 0 15 0) S.1) (mR S) (rlA ad S q)) (fun q => pw_roll hS (show S.1 < 4 by omega) q) rfl rfl q_w2 q_w3 (Nat.le_of_ble_eq_true rfl) (Nat.le_of_ble_eq_true rfl) dX8_roll_37 (fun q1 => ?_)
      obtain ⟨a1, ha1⟩ : ∃ z9, z9 = rlA ad S q1 := ⟨_, rfl⟩
      have va1 : q1 = a1 (5000 + S.1) := by rw [ha1]; exact rlA_o.symm
      have ga1 : ∀ i, i ∈ mL S → a1 i = ad i := fun i hi => by rw [ha1]; exact rlA_n hS (show S.1 < 4 by omega) (Or.inl hi)
      have aga1 : AGm (mL S) ad a1 := fun i hi _ _ => by rw [ha1]; exact rlA_n hS (show S.1 < 4 by omega) hi
      rw [← ha1]
      refine g_lvs (lv2 := [(0, .ref (a1 0))]) (st2 := [.ref (a1 (5000 + S.1)), .ref (a1 1)]) (by rw [ga1 0 (m_lo (by decide))]) (by rw [ga1 1 (m_lo (by decide)), ← va1]) ?_
      refine b_callI_F hX hM (b := 1) [.ref (a1 (5000 + S.1))] (rwL_mem.mpr (Or.inl (m_lo (by decide)))) (pf_obj rfl (by decide)) rfl (k_add1' (rwM (up2 M 0 15 0) S.1) S hS (show S.1 < 4 by omega) ((congrFun (rwM_n (by omega)) 2).trans ((up2_n (Or.inl (by decide))).trans hw1)) (AGm_z aga1 hz)) gX8_roll_Jx4a65c_add_9ea2d_f70Jx4a65c (by decide +kernel) rfl rfl rfl hdF_add ⟨Nat.le_of_ble_eq_true rfl, Nat.le_of_ble_eq_true rfl⟩ ⟨by have := gC_le S.1 S.2.2.2.1; show _ ≤ 202; omega, by have := gS_1 hS (show S.1 < 4 by omega); show _ ≤ 3410; omega⟩ rfl (Nat.le_of_ble_eq_true rfl) dX8_roll_41 (fun r9 a2 L9 f9 hp9 => ?_)
      obtain ⟨⟨x9, ga2, he9⟩, hr9⟩ := hp9
      cases he9
      subst hr9
      have aga2 : AGm (mL S) ad a2 := AGm_add aga1 (fun i hi => ga2 i (by omega))
      refine g_lvs (lv2 := [(0, .ref (a2 0))]) (st2 := [.int 1]) (by rw [ga2 0 (by omega)]) rfl ?_
      refine g_pop hX dX8_roll_46 rfl ?_
      refine g_aload_n hX 0 rfl dX8_roll_47 rfl ?_
      refine g_getRs (i := 0) hX 12 0 q_inX8 (m_lo (by decide)) rfl (by decide) rfl (by decide) rfl q_w1 rfl (j := 1) rfl dX8_roll_48 ?_
      refine b_callI_F hX hM (b := 1) [] (m_lo (by decide)) (pf_obj rfl (by decide)) rfl (k_Jx4a65c_size_8abf5 1 (m_lo (by decide)) rfl) gX8_roll_Jx4a65c_size_8abf5_f54Jx4a65c (by decide +kernel) rfl rfl rfl hdF_size ⟨Nat.le_of_ble_eq_true rfl, Nat.le_of_ble_eq_true rfl⟩ ⟨by have := gC_le S.1 S.2.2.2.1; show _ ≤ 202; omega, by have := gS_1 hS (show S.1 < 4 by omega); show _ ≤ 3410; omega⟩ rfl (Nat.le_of_ble_eq_true rfl) dX8_roll_51 (fun r9 ad9 L9 f9 hp9 => ?_)
      obtain ⟨he9, hr9⟩ := hp9
      cases he9
      subst hr9
      refine g_eqi (y := (nI (S.1 + 1))) up2_s ?_
      refine g_iconst hX (1) dX8_roll_56 rfl ?_
      refine g_isub hX dX8_roll_57 ?_
      refine g_eqi (y := nI S.1) (nI_pred S.1) ?_
      refine b_iret hX hE dX8_roll_58 (by have := gC_le S.1 S.2.2.2.1; omega) (by have := gS_1 hS (show S.1 < 4 by omega); omega) ?_
      exact ⟨_, aga2, Or.inl ⟨by omega, rfl, rfl⟩⟩
    · first | exact absurd c_23 (by decide) | exact absurd (by decide) c_23
abbrev rm_X8_copy : Room := { frames := 7, cells := 202, slots := 3410, locals := 190 }
theorem hd_X8_copy : yX8_copy.cls = RX8 ∧ yX8_copy.cls ≠ "java/lang/invoke/MethodHandle" ∧ yX8_copy.cls ≠ "java/lang/invoke/VarHandle" ∧ (parseMethodDescriptor yX8_copy.desc).map (fun d => d.parameters.length) = some 1 := by decide +kernel
set_option maxRecDepth 100000 in
set_option maxHeartbeats 4000000 in
theorem k_X8_copy {D : va_G} {dT : Nat → ClassId} {Z : ZT} {ad : Nat → Nat} (M : Nat → Nat → Int32) (S : SZ) (hS : WS S) (hw1 : M 1 2 = nI S.1) (hw2 : M 2 2 = nI S.2.1) (hw3 : M 3 2 = nI S.2.2.1) (hz : ad 99999 = Z.1) (hbit : ∀ j i k, j < S.1 → i < 200 → k < 16 → M (6000 + 200 * j + i) k = 0 ∨ M (6000 + 200 * j + i) k = 1) (v : Int32) : ∀ l8, BI l8 yX8_copy wsX8_copy rm_X8_copy D (tyl dT) Z ad (mL S) (pf dT mK mN M (mR S) ad) [.ref (ad 0), .int v] 202 3410 (fun r u => ∃ ad2, AGm (mL S) ad ad2 ∧ ((cpC S v = 0 ∧ u = (ad2, mL (addS1 S), mf dT ad2 (coM (up2 M 0 15 0) v.toNatClampNeg S.1) (addS1 S)) ∧ nI S.1 = r) ∨ (¬ cpC S v = 0 ∧ u = (ad2, mL S, mf dT ad2 (up2 M 0 15 (cpC S v)) S)))) := by
  intro l9
  refine bi_of (own := RX8) (cc := cX8_copy) (maxL := 4) (some .int) [(0, .ref (ad 0)), (1, .int v)] (by decide) rfl rfl rfl (Nat.le_of_ble_eq_true rfl) ?_
  intro X hX hE hN hM
  have q_w1 : Cond.fieldLink RX8 10 "PerforatumModel" "rolls" "Ljava/util/List;" ∈ wsX8_copy := List.mem_of_getElem? (i := 1) rfl
  have q_inX8 : ∀ w ∈ wsX80, w ∈ wsX8_copy := by decide +kernel
  have q_w2 : Cond.classLink RX8 93 "[Z" ∈ wsX8_copy := List.mem_of_getElem? (i := 2) rfl
  have q_w3 : Cond.classLink RX8 68 "[[Z" ∈ wsX8_copy := List.mem_of_getElem? (i := 3) rfl
  have q_w4 : Cond.methodLink RX8 94 ⟨"[Z", "clone", "()Ljava/lang/Object;"⟩ ∈ wsX8_copy := List.mem_of_getElem? (i := 4) rfl
  have q_w5 : Cond.sameMethod "[Z" "java/lang/Object" "clone" "()Ljava/lang/Object;" ∈ wsX8_copy := List.mem_of_getElem? (i := 5) rfl
  have q_w6 : Cond.native ⟨"java/lang/Object", "clone", "()Ljava/lang/Object;"⟩ ∈ wsX8_copy := List.mem_of_getElem? (i := 6) rfl
  have q_w7 : Cond.instanceMethod ⟨"java/lang/Object", "clone", "()Ljava/lang/Object;"⟩ ∈ wsX8_copy := List.mem_of_getElem? (i := 7) rfl
  have q_w8 : Cond.selects "[Z" ⟨"[Z", "clone", "()Ljava/lang/Object;"⟩ ⟨"java/lang/Object", "clone", "()Ljava/lang/Object;"⟩ ∈ wsX8_copy := List.mem_of_getElem? (i := 8) rfl
  have hS1 := hS.1
  have hS2 := hS.2.1
  have hS3 := hS.2.2.1
  refine g_aload_n hX 0 rfl dX8_copy_0 rfl ?_
  refine g_aload_n hX 0 rfl dX8_copy_1 rfl ?_
  refine g_iload_n hX 1 rfl dX8_copy_2 rfl ?_
  refine b_callI_V hX hM (b := 0) [.int v] (m_lo (by decide)) (pf_obj rfl (by decide)) rfl (k_X8_isRoll (m_lo (by decide)) rfl (m_lo (by decide)) rfl rfl v) gX8_copy_X8_isRoll rfl rfl rfl hd_X8_isRoll ⟨Nat.le_of_ble_eq_true rfl, Nat.le_of_ble_eq_true rfl⟩ ⟨Nat.le_of_ble_eq_true rfl, Nat.le_of_ble_eq_true rfl⟩ rfl (Nat.le_of_ble_eq_true rfl) dX8_copy_3 (fun r9 ad9 L9 f9 hp9 => ?_)
  obtain ⟨he9, hr9⟩ := hp9
  cases he9
  subst hr9
  refine g_eqi (y := isi v 0 (nI S.1 - 1)) (by rw [hw1]) ?_
  refine g_iconst hX (1) dX8_copy_6 rfl ?_
  refine b_callI_V hX hM (b := 0) [.int (isi v 0 (nI S.1 - 1)), .int 1] (m_lo (by decide)) (pf_obj rfl (by decide)) rfl (k_X8_no (m_lo (by decide)) rfl (isi v 0 (nI S.1 - 1)) 1) gX8_copy_X8_no rfl rfl rfl hd_X8_no ⟨Nat.le_of_ble_eq_true rfl, Nat.le_of_ble_eq_true rfl⟩ ⟨Nat.le_of_ble_eq_true rfl, Nat.le_of_ble_eq_true rfl⟩ rfl (Nat.le_of_ble_eq_true rfl) dX8_copy_7 (fun r9 ad9 L9 f9 hp9 => ?_)
  obtain ⟨he9, hr9⟩ := hp9
  cases he9
  subst hr9
  refine g_if_ne (tgt := 39) hX dX8_copy_10 (by decide) (fun c_10 => ?_) (fun c_10 => ?_)
  · have c_10 := z11 c_10
    refine g_iconst hX (0) dX8_copy_39 rfl ?_
    refine b_iret hX hE dX8_copy_40 (by omega) (by omega) ?_
    exact ⟨_, AGm_rf, Or.inr ⟨by simp [cpC, c_10], congrArg (fun z => (ad, mL S, mf dT ad z S)) (by simp [up2_ss, cpC, c_10])⟩⟩
  · have c_10 := z10 c_10
    refine g_aload_n hX 0 rfl dX8_copy_13 rfl ?_
    refine g_aload_n hX 0 rfl dX8_copy_14 rfl ?_
    refine g_getRs (i := 0) hX 12 0 q_inX8 (m_lo (by decide)) rfl (by decide) rfl (by decide) rfl q_w1 rfl (j := 1) rfl dX8_copy_15 ?_
    refine b_callI_F hX hM (b := 1) [] (m_lo (by decide)) (pf_obj rfl (by decide)) rfl (k_Jx4a65c_size_8abf5 1 (m_lo (by decide)) rfl) gX8_copy_Jx4a65c_size_8abf5_f54Jx4a65c (by decide +kernel) rfl rfl rfl hdF_size ⟨Nat.le_of_ble_eq_true rfl, Nat.le_of_ble_eq_true rfl⟩ ⟨Nat.le_of_ble_eq_true rfl, Nat.le_of_ble_eq_true rfl⟩ rfl (Nat.le_of_ble_eq_true rfl) dX8_copy_18 (fun r9 ad9 L9 f9 hp9 => ?_)
    obtain ⟨he9, hr9⟩ := hp9
    cases he9
    subst hr9
    refine g_eqi (y := (nI S.1)) ((up2_n (Or.inl (by decide))).trans hw1) ?_
    refine g_iconst hX (4) dX8_copy_23 rfl ?_
    refine g_icmp_ge (tgt := 31) hX dX8_copy_24 (by decide) (fun c_24 => ?_) (fun c_24 => ?_)
    · have c_24 : 4 ≤ S.1 := (nI_leI (a := 4) (b := S.1) (by omega) (by omega)).mp c_24
      refine g_iconst hX (0) dX8_copy_31 rfl ?_
      refine g_iconst hX (2) dX8_copy_32 rfl ?_
      refine b_callI_V hX hM (b := 0) [.int 0, .int 2] (m_lo (by decide)) (pf_obj rfl (by decide)) rfl (k_X8_no (m_lo (by decide)) rfl 0 2) gX8_copy_X8_no rfl rfl rfl hd_X8_no ⟨Nat.le_of_ble_eq_true rfl, Nat.le_of_ble_eq_true rfl⟩ ⟨Nat.le_of_ble_eq_true rfl, Nat.le_of_ble_eq_true rfl⟩ rfl (Nat.le_of_ble_eq_true rfl) dX8_copy_33 (fun r9 ad9 L9 f9 hp9 => ?_)
      obtain ⟨he9, hr9⟩ := hp9
      cases he9
      subst hr9
      rw [show (if (0 : Int32) = 0 then (2 : Int32) else 0) = 2 from by decide]
      refine g_eqi (y := 1) (by decide) ?_
      refine g_if_eq (tgt := 41) hX dX8_copy_36 (by decide) (fun c_36 => ?_) (fun c_36 => ?_)
      · first | exact absurd c_36 (by decide) | exact absurd (by decide) c_36
      · refine g_iconst hX (0) dX8_copy_39 rfl ?_
        refine b_iret hX hE dX8_copy_40 (by omega) (by omega) ?_
        exact ⟨_, AGm_rf, Or.inr ⟨by simp [cpC, c_10, show ¬ S.1 < 4 by omega], congrArg (fun z => (ad, mL S, mf dT ad z S)) (by simp [up2_ss, cpC, c_10, show ¬ S.1 < 4 by omega])⟩⟩
    · have c_24 : ¬ 4 ≤ S.1 := fun h9 => c_24 ((nI_leI (a := 4) (b := S.1) (by omega) (by omega)).mpr h9)
      refine g_iconst hX (1) dX8_copy_27 rfl ?_
      refine g_goto (tgt := 32) hX dX8_copy_28 (by decide) ?_
      refine g_iconst hX (2) dX8_copy_32 rfl ?_
      refine b_callI_V hX hM (b := 0) [.int 1, .int 2] (m_lo (by decide)) (pf_obj rfl (by decide)) rfl (k_X8_no (m_lo (by decide)) rfl 1 2) gX8_copy_X8_no rfl rfl rfl hd_X8_no ⟨Nat.le_of_ble_eq_true rfl, Nat.le_of_ble_eq_true rfl⟩ ⟨Nat.le_of_ble_eq_true rfl, Nat.le_of_ble_eq_true rfl⟩ rfl (Nat.le_of_ble_eq_true rfl) dX8_copy_33 (fun r9 ad9 L9 f9 hp9 => ?_)
      obtain ⟨he9, hr9⟩ := hp9
      cases he9
      subst hr9
      rw [show (if (1 : Int32) = 0 then (2 : Int32) else 0) = 0 from by decide]
      refine g_eqi (y := 0) (by decide) ?_
      refine g_if_eq (tgt := 41) hX dX8_copy_36 (by decide) (fun c_36 => ?_) (fun c_36 => ?_)
      · rw [show (up2 (up2 M 0 15 (if (isi v 0 (nI S.1 - 1)) = 0 then 1 else 0)) 0 15 0) = up2 M 0 15 0 from by simp [up2_ss, c_10]]
        obtain ⟨j, hj, rfl⟩ := isi_n c_10 (by have := hS.1; omega)
        refine g_sipush hX (200) dX8_copy_41 rfl ?_
        refine g_f (g := pf dT mK mN (up2 M 0 15 0) (zR (mR S) (5000 + S.1)) ad) (fun i hi => (pf_R (zR_n (show i ≠ (5000 + S.1) from fun h => (f_o hS (Nat.le_refl _) (show S.1 < 4 by omega)) (h ▸ hi)))).symm) ?_
        refine b_newR26 hX hM (5000 + S.1) (f_o hS (Nat.le_refl _) (show S.1 < 4 by omega)) (fun i hi k e => mR_no hS (f_o hS (Nat.le_refl _) (show S.1 < 4 by omega)) (by omega) i hi k ((congrFun (zR_n (show i ≠ (5000 + S.1) from fun h => (f_o hS (Nat.le_refl _) (show S.1 < 4 by omega)) (h ▸ hi))) k).symm.trans e)) 200 (mK_o (show S.1 < 4 by omega)) (mN_o (show S.1 < 4 by omega)) (fun k9 => zR_s k9) (x := 200) rfl (by decide) q_w2 (Nat.le_of_ble_eq_true rfl) (Nat.le_of_ble_eq_true rfl) dX8_copy_44 (fun qn1 => ?_)
        obtain ⟨a2, ha2⟩ : ∃ z9, z9 = va_up ad (5000 + S.1) qn1 := ⟨_, rfl⟩
        have ga2 : ∀ i, i ∈ (mL S) → a2 i = ad i := fun i hi => by rw [ha2]; exact va_up_ne _ _ (fun h => (f_o hS (Nat.le_refl _) (show S.1 < 4 by omega)) (h ▸ hi))
        rw [← ha2]
        refine g_lvs (lv2 := [(0, .ref (a2 0)), (1, .int (nI j))]) (st2 := [.ref (a2 (5000 + S.1))]) (by rw [ga2 0 (m_lo (by decide))]) rfl ?_
        have aga2 : AGm (mL S) ad a2 := by rw [ha2]; exact AGm_new AGm_rf (f_o hS (Nat.le_refl _) (show S.1 < 4 by omega)) (by omega)
        refine g_astore_n hX [(2, .ref (a2 (5000 + S.1))), (0, .ref (a2 0)), (1, .int (nI j))] rfl dX8_copy_47 rfl (by decide) ?_
        refine g_iconst hX (0) dX8_copy_48 rfl ?_
        refine g_istore_n hX [(3, .int 0), (2, .ref (a2 (5000 + S.1))), (0, .ref (a2 0)), (1, .int (nI j))] rfl dX8_copy_49 rfl (by decide) ?_
        have lp_50 : ∀ (n9 : Nat) (r : Nat) (a : Nat → Nat), 200 - r < n9 → (r ≤ 200) → (AGm (mL S) ad a) → GG X D a (rwL S r) (pf dT mK mN (cpM (up2 M 0 15 0) j S.1 r) (cpR S r) a) [(3, .int (nI r)), (2, .ref (a (5000 + S.1))), (0, .ref (a 0)), (1, .int (nI j))] (0 + 1 + r) (0 + 200 + 16 * r) 50 [] := by
          intro n9
          induction n9 with
          | zero => intro r a h9; exact absurd h9 (Nat.not_lt_zero _)
          | succ n9 ih9 =>
            intro r a h9 hr hag
            have ih_50 := ih9
            have hj9 := hj
            refine g_iload_n hX 0 rfl dX8_copy_50 rfl ?_
            refine g_sipush hX (200) dX8_copy_51 rfl ?_
            refine g_icmp_ge (tgt := 87) hX dX8_copy_54 (by decide) (fun c_54 => ?_) (fun c_54 => ?_)
            · have c_54 : 200 ≤ r := (nI_leI (a := 200) (b := r) (by omega) (by omega)).mp c_54
              have hr2 : r = 200 := by omega
              subst hr2
              rw [cpR_200 (show S.1 < 4 by omega)]
              refine g_aload_n hX 2 rfl dX8_copy_87 rfl ?_
              refine g_getRs (i := 0) hX 12 0 q_inX8 (rwL_mem.mpr (Or.inl (m_lo (by decide)))) rfl (by decide) rfl (by decide) rfl q_w1 rfl (j := 1) rfl dX8_copy_88 ?_
              refine g_aload_n hX 1 rfl dX8_copy_91 rfl ?_
              refine b_callI_F hX hM (b := 1) [.ref (a (5000 + S.1))] (rwL_mem.mpr (Or.inl (m_lo (by decide)))) (pf_obj rfl (by decide)) rfl (k_add1' (cpM (up2 M 0 15 0) j S.1 200) S hS (show S.1 < 4 by omega) ((congrFun (cpM_n (by omega)) 2).trans ((up2_n (Or.inl (by decide))).trans hw1)) (AGm_z hag hz)) gX8_copy_Jx4a65c_add_9ea2d_f70Jx4a65c (by decide +kernel) rfl rfl rfl hdF_add ⟨Nat.le_of_ble_eq_true rfl, Nat.le_of_ble_eq_true rfl⟩ ⟨by have := gC_le S.1 S.2.2.2.1; show _ ≤ 202; omega, by have := gS_1 hS (show S.1 < 4 by omega); show _ ≤ 3410; omega⟩ rfl (Nat.le_of_ble_eq_true rfl) dX8_copy_92 (fun r9 a3 L9 f9 hp9 => ?_)
              obtain ⟨⟨x9, ga3, he9⟩, hr9⟩ := hp9
              cases he9
              subst hr9
              have aga3 : AGm (mL S) ad a3 := AGm_add hag (fun i hi => ga3 i (by omega))
              refine g_lvs (lv2 := [(3, .int (nI 200)), (2, .ref (a3 (5000 + S.1))), (0, .ref (a3 0)), (1, .int (nI j))]) (st2 := [.int 1]) (by rw [ga3 (5000 + S.1) (by omega), ga3 0 (by omega)]) rfl ?_
              refine g_pop hX dX8_copy_97 rfl ?_
              refine g_aload_n hX 2 rfl dX8_copy_98 rfl ?_
              refine g_getRs (i := 0) hX 12 0 q_inX8 (m_lo (by decide)) rfl (by decide) rfl (by decide) rfl q_w1 rfl (j := 1) rfl dX8_copy_99 ?_
              refine b_callI_F hX hM (b := 1) [] (m_lo (by decide)) (pf_obj rfl (by decide)) rfl (k_Jx4a65c_size_8abf5 1 (m_lo (by decide)) rfl) gX8_copy_Jx4a65c_size_8abf5_f54Jx4a65c (by decide +kernel) rfl rfl rfl hdF_size ⟨Nat.le_of_ble_eq_true rfl, Nat.le_of_ble_eq_true rfl⟩ ⟨by have := gC_le S.1 S.2.2.2.1; show _ ≤ 202; omega, by have := gS_1 hS (show S.1 < 4 by omega); show _ ≤ 3410; omega⟩ rfl (Nat.le_of_ble_eq_true rfl) dX8_copy_102 (fun r9 ad9 L9 f9 hp9 => ?_)
              obtain ⟨he9, hr9⟩ := hp9
              cases he9
              subst hr9
              refine g_eqi (y := (nI (S.1 + 1))) up2_s ?_
              refine g_iconst hX (1) dX8_copy_107 rfl ?_
              refine g_isub hX dX8_copy_108 ?_
              refine g_eqi (y := nI S.1) (nI_pred S.1) ?_
              refine b_iret hX hE dX8_copy_109 (by have := gC_le S.1 S.2.2.2.1; omega) (by have := gS_1 hS (show S.1 < 4 by omega); omega) ?_
              exact ⟨_, aga3, Or.inl ⟨by simp [cpC, c_10, show S.1 < 4 by omega], by rw [nI_clamp (n := j) (by omega)]; rfl, rfl⟩⟩
            · have c_54 : ¬ 200 ≤ r := fun h9 => c_54 ((nI_leI (a := 200) (b := r) (by omega) (by omega)).mpr h9)
              refine g_aload_n hX 1 rfl dX8_copy_57 rfl ?_
              refine g_iload_n hX 0 rfl dX8_copy_58 rfl ?_
              refine g_aload_n hX 2 rfl dX8_copy_59 rfl ?_
              refine g_getRs (i := 0) hX 12 0 q_inX8 (rwL_mem.mpr (Or.inl (m_lo (by decide)))) rfl (by decide) rfl (by decide) rfl q_w1 rfl (j := 1) ((congrFun (cpR_n (by omega)) 0).trans rfl) dX8_copy_60 ?_
              refine g_iload_n hX 3 rfl dX8_copy_63 rfl ?_
              refine b_callQ_F hX hM (b := 1) [.int (nI j)] (rwL_mem.mpr (Or.inl (m_lo (by decide)))) (pf_obj rfl (by decide)) rfl (v_get 1 (S.1) 5000 j (LV_up (LV_1 hS (M := up2 M 0 15 0) ((up2_n (Or.inl (by decide))).trans hw1)) (fun i hi => rwL_mem.mpr (Or.inl hi)) (fun i hi => cpR_n (fun h => f_o hS (Nat.le_refl _) (show S.1 < 4 by omega) (h ▸ hi))) (congrFun (cpM_n (by omega)) 2)) hj) gX8_copy_Jx4a65c_get_915e3_f81Jx4a65c (by decide +kernel) rfl rfl rfl hdF_get ⟨Nat.le_of_ble_eq_true rfl, Nat.le_of_ble_eq_true rfl⟩ ⟨by show _ ≤ 202; omega, by show _ ≤ 3410; omega⟩ rfl (Nat.le_of_ble_eq_true rfl) dX8_copy_64 (fun r9 ad9 L9 f9 hp9 => ?_)
              obtain ⟨he9, hr9⟩ := hp9
              cases he9
              subst hr9
              refine b_cast26 (i := (5000 + j)) hX (rwL_mem.mpr (Or.inl (m_o hS hj))) (mK_o (by have := hS.1; omega)) q_w3 dX8_copy_69 ?_
              refine g_iload_n hX 0 rfl dX8_copy_72 rfl ?_
              refine h_aald26 (i := (5000 + j)) hX r rfl (by rw [mN_o (by have := hS.1; omega)]; omega) (by rw [mN_o (by have := hS.1; omega)]; decide) (j := (6000 + 200 * j + r)) ((congrFun (cpR_n (by omega)) r).trans (mR_o (by have := hS.1; omega) (by omega))) (rwL_mem.mpr (Or.inl (m_o hS hj))) (mK_o (by have := hS.1; omega)) dX8_copy_73 ?_
              refine b_clone (i := (6000 + 200 * j + r)) hX hM (6000 + 200 * S.1 + r) (rwL_nin hS (show S.1 < 4 by omega) (by omega)) (rwL_no hS (show S.1 < 4 by omega) (by omega) rfl) (rwL_mem.mpr (Or.inl (m_r hS hj (by omega)))) (mK_r (by omega) (by omega)) (mK_r (by omega) (by omega)) (by rw [mN_r (by omega) (by omega), mN_r (by omega) (by omega)]) q_w4 q_w5 q_w6 q_w7 q_w8 (fun k9 hk9 => by rw [mN_r (by omega) (by omega)] at hk9; rw [show (cpM (up2 M 0 15 0) j S.1 r) (6000 + 200 * j + r) k9 = M (6000 + 200 * j + r) k9 from ((congrFun (cpM_n (by omega)) k9).trans (congrFun (up2_row (by omega)) k9))]; exact hbit j r k9 hj (by omega) hk9) (Nat.le_of_ble_eq_true rfl) (Nat.le_of_ble_eq_true rfl) (by show _ ≤ 202; omega) (by rw [mN_r (by omega) (by omega)]; show _ ≤ 3410; omega) dX8_copy_74 (fun q9 => ?_)
              rw [mN_r (j := j) (r := r) (by omega) (by omega)]
              obtain ⟨a4, ha4⟩ : ∃ z9, z9 = va_up a (6000 + 200 * S.1 + r) q9 := ⟨_, rfl⟩
              have va4 : q9 = a4 (6000 + 200 * S.1 + r) := by rw [ha4]; exact (if_pos rfl).symm
              have ga4 : ∀ i, i ∈ (rwL S r) → a4 i = a i := fun i hi => by rw [ha4]; exact va_up_ne _ _ (fun h => (rwL_nin hS (show S.1 < 4 by omega) (by omega)) (h ▸ hi))
              have aga4 : AGm (mL S) ad a4 := by rw [ha4]; exact AGm_new hag (f_r hS (Nat.le_refl _) (show S.1 < 4 by omega) (by omega)) (by omega)
              rw [← ha4]
              refine g_lvs (lv2 := [(3, .int (nI r)), (2, .ref (a4 (5000 + S.1))), (0, .ref (a4 0)), (1, .int (nI j))]) (st2 := [.ref (a4 (6000 + 200 * S.1 + r)), .int (nI r), .ref (a4 (5000 + S.1))]) (by rw [ga4 (5000 + S.1) (rwL_mem.mpr (Or.inr (Or.inl rfl))), ga4 0 (rwL_mem.mpr (Or.inl (m_lo (by decide))))]) (by rw [ga4 (5000 + S.1) (rwL_mem.mpr (Or.inr (Or.inl rfl)))]) ?_
              refine b_cast21 (i := (6000 + 200 * S.1 + r)) hX (List.mem_append_right _ (List.mem_singleton.mpr rfl)) (mK_r (by have := hS.1; omega) (by omega)) q_w2 dX8_copy_77 ?_
              refine h_ast26 (i := (5000 + S.1))  (v := (6000 + 200 * S.1 + r)) hX hM r rfl (by rw [mN_o (by have := hS.1; omega)]; omega) (by rw [mN_o (by have := hS.1; omega)]; decide) (List.mem_append_left _ (rwL_mem.mpr (Or.inr (Or.inl rfl)))) (mK_o (by have := hS.1; omega)) (List.mem_append_right _ (List.mem_singleton.mpr rfl)) (mK_r (by have := hS.1; omega) (by omega)) dX8_copy_80 ?_
              refine g_iinc hX (nI (r + 1)) [(3, .int (nI (r + 1))), (2, .ref (a4 (5000 + S.1))), (0, .ref (a4 0)), (1, .int (nI j))] (k := 0) rfl (g_inc r) rfl dX8_copy_81 (by decide) ?_
              refine g_goto (tgt := 50) hX dX8_copy_84 (by decide) ?_
              rw [rwL_s, cpR_s, cpM_s hj (by omega)]
              skip
              refine g_lv [0, 1, 2, 3] rfl ?_
              refine g_widen (k := 0 + 1 + (r + 1)) (n := 0 + 200 + 16 * (r + 1)) (by omega) (by omega) ?_
              exact ih_50 (r + 1) a4 (by omega) (by omega) (aga4)
        rw [show pf dT mK mN (up2 M 0 15 0) (zR (mR S) (5000 + S.1)) a2 = pf dT mK mN (cpM (up2 M 0 15 0) j S.1 0) (cpR S 0) a2 from by rw [← cpM_0, cpR_0], rwL_0 (S := S)]
        skip
        refine g_lv [0, 1, 2, 3] rfl ?_
        refine g_widen (k := 0 + 1 + 0) (n := 0 + 200 + 16 * 0) (by omega) (by omega) ?_
        exact lp_50 _ 0 a2 (Nat.lt_succ_self _) (Nat.zero_le _) (aga2)
      · first | exact absurd c_36 (by decide) | exact absurd (by decide) c_36
abbrev rm_X8_arrange : Room := { frames := 4, cells := 1, slots := 4, locals := 88 }
theorem hd_X8_arrange : yX8_arrange.cls = RX8 ∧ yX8_arrange.cls ≠ "java/lang/invoke/MethodHandle" ∧ yX8_arrange.cls ≠ "java/lang/invoke/VarHandle" ∧ (parseMethodDescriptor yX8_arrange.desc).map (fun d => d.parameters.length) = some 2 := by decide +kernel
set_option maxRecDepth 100000 in
set_option maxHeartbeats 4000000 in
theorem k_X8_arrange {D : va_G} {dT : Nat → ClassId} {Z : ZT} {ad : Nat → Nat} (M : Nat → Nat → Int32) (S : SZ) (hS : WS S) (hw1 : M 1 2 = nI S.1) (hw2 : M 2 2 = nI S.2.1) (hw3 : M 3 2 = nI S.2.2.1) (fa la pa : Nat → Nat) (hmu : ∀ n, n < S.2.1 → M (7000 + n) 0 = nI (fa n) ∧ M (7000 + n) 1 = nI (la n) ∧ M (7000 + n) 2 = nI (pa n) ∧ fa n + la n ≤ 200 ∧ pa n < 12) (v z : Int32) : ∀ l8, BI l8 yX8_arrange wsX8_arrange rm_X8_arrange D (tyl dT) Z ad (mL S) (pf dT mK mN M (mR S) ad) [.ref (ad 0), .int v, .int z] 1 4 (fun r u => ∃ ad2, AGm (mL S) ad ad2 ∧ ((r1C S v = 0 ∧ u = (ad2, mL S, mf dT ad2 (arN (arC (up2 M 0 15 0) v.toNatClampNeg 200 0) v.toNatClampNeg fa la pa z S.2.1) S) ∧ nI (hsM (arN (arC (up2 M 0 15 0) v.toNatClampNeg 200 0) v.toNatClampNeg fa la pa z S.2.1) v.toNatClampNeg 12) = r) ∨ (¬ r1C S v = 0 ∧ u = (ad2, mL S, mf dT ad2 (up2 M 0 15 (r1C S v)) S)))) := by
  intro l9
  refine bi_of (own := RX8) (cc := cX8_arrange) (maxL := 9) (some .int) [(0, .ref (ad 0)), (1, .int v), (2, .int z)] (by decide) rfl rfl rfl (Nat.le_of_ble_eq_true rfl) ?_
  intro X hX hE hN hM
  have q_w1 : Cond.fieldLink RX8 10 "PerforatumModel" "rolls" "Ljava/util/List;" ∈ wsX8_arrange := List.mem_of_getElem? (i := 1) rfl
  have q_inX8 : ∀ w ∈ wsX80, w ∈ wsX8_arrange := by decide +kernel
  have q_w2 : Cond.classLink RX8 68 "[[Z" ∈ wsX8_arrange := List.mem_of_getElem? (i := 2) rfl
  have q_w3 : Cond.fieldLink RX8 16 "PerforatumModel" "music" "Ljava/util/List;" ∈ wsX8_arrange := List.mem_of_getElem? (i := 3) rfl
  have q_w4 : Cond.classLink RX8 117 "[I" ∈ wsX8_arrange := List.mem_of_getElem? (i := 4) rfl
  have hS1 := hS.1
  have hS2 := hS.2.1
  have hS3 := hS.2.2.1
  refine g_aload_n hX 0 rfl dX8_arrange_0 rfl ?_
  refine g_aload_n hX 0 rfl dX8_arrange_1 rfl ?_
  refine g_iload_n hX 1 rfl dX8_arrange_2 rfl ?_
  refine b_callI_V hX hM (b := 0) [.int v] (m_lo (by decide)) (pf_obj rfl (by decide)) rfl (k_X8_isRoll (m_lo (by decide)) rfl (m_lo (by decide)) rfl rfl v) gX8_arrange_X8_isRoll rfl rfl rfl hd_X8_isRoll ⟨Nat.le_of_ble_eq_true rfl, Nat.le_of_ble_eq_true rfl⟩ ⟨Nat.le_of_ble_eq_true rfl, Nat.le_of_ble_eq_true rfl⟩ rfl (Nat.le_of_ble_eq_true rfl) dX8_arrange_3 (fun r9 ad9 L9 f9 hp9 => ?_)
  obtain ⟨he9, hr9⟩ := hp9
  cases he9
  subst hr9
  refine g_eqi (y := isi v 0 (nI S.1 - 1)) (by rw [hw1]) ?_
  refine g_iconst hX (1) dX8_arrange_6 rfl ?_
  refine b_callI_V hX hM (b := 0) [.int (isi v 0 (nI S.1 - 1)), .int 1] (m_lo (by decide)) (pf_obj rfl (by decide)) rfl (k_X8_no (m_lo (by decide)) rfl (isi v 0 (nI S.1 - 1)) 1) gX8_arrange_X8_no rfl rfl rfl hd_X8_no ⟨Nat.le_of_ble_eq_true rfl, Nat.le_of_ble_eq_true rfl⟩ ⟨Nat.le_of_ble_eq_true rfl, Nat.le_of_ble_eq_true rfl⟩ rfl (Nat.le_of_ble_eq_true rfl) dX8_arrange_7 (fun r9 ad9 L9 f9 hp9 => ?_)
  obtain ⟨he9, hr9⟩ := hp9
  cases he9
  subst hr9
  refine g_if_eq (tgt := 15) hX dX8_arrange_10 (by decide) (fun c_10 => ?_) (fun c_10 => ?_)
  · have c_10 := z10 c_10
    rw [show (up2 M 0 15 (if (isi v 0 (nI S.1 - 1)) = 0 then 1 else 0)) = up2 M 0 15 0 from by simp [up2_ss, c_10]]
    obtain ⟨j, hj, rfl⟩ := isi_n c_10 (by have := hS.1; omega)
    refine g_aload_n hX 0 rfl dX8_arrange_15 rfl ?_
    refine g_getRs (i := 0) hX 12 0 q_inX8 (m_lo (by decide)) rfl (by decide) rfl (by decide) rfl q_w1 rfl (j := 1) rfl dX8_arrange_16 ?_
    refine g_iload_n hX 1 rfl dX8_arrange_19 rfl ?_
    refine b_callQ_F hX hM (b := 1) [.int (nI j)] (m_lo (by decide)) (pf_obj rfl (by decide)) rfl (v_get 1 (S.1) 5000 j (LV_1 hS (M := (up2 M 0 15 0)) ((up2_n (Or.inl (by decide))).trans hw1)) hj) gX8_arrange_Jx4a65c_get_915e3_f81Jx4a65c (by decide +kernel) rfl rfl rfl hdF_get ⟨Nat.le_of_ble_eq_true rfl, Nat.le_of_ble_eq_true rfl⟩ ⟨Nat.le_of_ble_eq_true rfl, Nat.le_of_ble_eq_true rfl⟩ rfl (Nat.le_of_ble_eq_true rfl) dX8_arrange_20 (fun r9 ad9 L9 f9 hp9 => ?_)
    obtain ⟨he9, hr9⟩ := hp9
    cases he9
    subst hr9
    refine b_cast26 (i := (5000 + j)) hX (m_o hS hj) (mK_o (by have := hS.1; omega)) q_w2 dX8_arrange_25 ?_
    refine g_astore_n hX [(3, .ref (ad (5000 + j))), (0, .ref (ad 0)), (1, .int (nI j)), (2, .int z)] rfl dX8_arrange_28 rfl (by decide) ?_
    refine g_aload_n hX 0 rfl dX8_arrange_29 rfl ?_
    refine g_astore hX [(4, .ref (ad (5000 + j))), (3, .ref (ad (5000 + j))), (0, .ref (ad 0)), (1, .int (nI j)), (2, .int z)] rfl dX8_arrange_30 (by decide) ?_
    refine g_aload hX 0 rfl dX8_arrange_32 ?_
    refine g_alen26 (i := (5000 + j)) hX rfl (nI 200) (m_o hS hj) (mK_o (by have := hS.1; omega)) (by rw [mN_o (by have := hS.1; omega)]; rfl) dX8_arrange_34 ?_
    refine g_istore hX [(5, .int (nI 200)), (4, .ref (ad (5000 + j))), (3, .ref (ad (5000 + j))), (0, .ref (ad 0)), (1, .int (nI j)), (2, .int z)] rfl dX8_arrange_35 (by decide) ?_
    refine g_iconst hX (0) dX8_arrange_37 rfl ?_
    refine g_istore hX [(6, .int 0), (5, .int (nI 200)), (4, .ref (ad (5000 + j))), (3, .ref (ad (5000 + j))), (0, .ref (ad 0)), (1, .int (nI j)), (2, .int z)] rfl dX8_arrange_38 (by decide) ?_
    have lp_40 : ∀ (n9 : Nat) (r : Nat), 200 - r < n9 → (r ≤ 200) → GG X D ad (mL S) (pf dT mK mN (arC (up2 M 0 15 0) j r 0) (mR S) ad) [(6, .int (nI r)), (5, .int (nI 200)), (4, .ref (ad (5000 + j))), (3, .ref (ad (5000 + j))), (0, .ref (ad 0)), (1, .int (nI j)), (2, .int z)] (0) (0) 40 [] := by
      intro n9
      induction n9 with
      | zero => intro r h9; exact absurd h9 (Nat.not_lt_zero _)
      | succ n9 ih9 =>
        intro r h9 hr
        have ih_40 := ih9
        refine g_iload hX 0 rfl dX8_arrange_40 ?_
        refine g_iload hX 1 rfl dX8_arrange_42 ?_
        refine g_icmp_ge (tgt := 82) hX dX8_arrange_44 (by decide) (fun c_44 => ?_) (fun c_44 => ?_)
        · have c_44 : 200 ≤ r := (nI_leI (a := 200) (b := r) (by omega) (by omega)).mp c_44
          have hr2 : r = 200 := by omega
          subst hr2
          refine g_aload_n hX 4 rfl dX8_arrange_82 rfl ?_
          refine g_getRs (i := 0) hX 12 1 q_inX8 (m_lo (by decide)) rfl (by decide) rfl (by decide) rfl q_w3 rfl (j := 2) rfl dX8_arrange_83 ?_
          refine b_callQ_F hX hM (b := 2) [] (m_lo (by decide)) (pf_obj rfl (by decide)) rfl (v_iter 2 (S.2.1) 7000 9 (LV_2 hS (M := (arC (up2 M 0 15 0) j 200 0)) ((congrFun (arC_n (by omega)) 2).trans ((up2_n (Or.inl (by decide))).trans hw2))) rfl (f_lo (by decide) (by decide) hS) (mR_no hS (f_lo (by decide) (by decide) hS) (by omega)) (mR_0 (by omega))) gX8_arrange_Jx4a65c_iterator_32c93_f104Jx4a65c (by decide +kernel) rfl rfl rfl hdF_iterator ⟨Nat.le_of_ble_eq_true rfl, Nat.le_of_ble_eq_true rfl⟩ ⟨Nat.le_of_ble_eq_true rfl, Nat.le_of_ble_eq_true rfl⟩ rfl (Nat.le_of_ble_eq_true rfl) dX8_arrange_86 (fun r9 ad9 L9 f9 hp9 => ?_)
          obtain ⟨qa1, he9, hr9⟩ := hp9
          cases he9
          subst hr9
          obtain ⟨a1, ha1⟩ : ∃ z9, z9 = va_up ad 9 qa1 := ⟨_, rfl⟩
          have va1 : qa1 = a1 9 := by rw [ha1]; exact (if_pos rfl).symm
          have ga1 : ∀ i, i ∈ (mL S) → a1 i = ad i := fun i hi => by rw [ha1]; exact va_up_ne _ _ (fun h => (f_lo (by decide) (by decide) hS) (h ▸ hi))
          have aga1 : AGm (mL S) ad a1 := by rw [ha1]; exact AGm_new AGm_rf (f_lo (by decide) (by decide) hS) (by omega)
          rw [← ha1]
          refine g_lvs (lv2 := [(6, .int (nI 200)), (5, .int (nI 200)), (4, .ref (a1 (5000 + j))), (3, .ref (a1 (5000 + j))), (0, .ref (a1 0)), (1, .int (nI j)), (2, .int z)]) (st2 := [.ref (a1 9)]) (by rw [ga1 (5000 + j) (m_o hS hj), ga1 0 (m_lo (by decide))]) (by rw [va1]; rfl) ?_
          refine g_astore hX [(4, .ref (a1 9)), (6, .int (nI 200)), (5, .int (nI 200)), (3, .ref (a1 (5000 + j))), (0, .ref (a1 0)), (1, .int (nI j)), (2, .int z)] rfl dX8_arrange_91 (by decide) ?_
          have lp_93 : ∀ (n9 : Nat) (k : Nat), S.2.1 - k < n9 → (k ≤ S.2.1) → GG X D a1 ((mL S) ++ [9]) (pf dT mK mN (itM (arN (arC (up2 M 0 15 0) j 200 0) j fa la pa z k) 9 2 k) (up2 (mR S) 9 3 (some 2)) a1) [(4, .ref (a1 9)), (3, .ref (a1 (5000 + j))), (0, .ref (a1 0)), (1, .int (nI j)), (2, .int z)] (0 + 1) (0 + 4) 93 [] := by
            intro n9
            induction n9 with
            | zero => intro k h9; exact absurd h9 (Nat.not_lt_zero _)
            | succ n9 ih9 =>
              intro k h9 hk
              have ih_93 := ih9
              refine g_aload hX 0 rfl dX8_arrange_93 ?_
              refine b_callI_F hX hM (b := 9) [] (List.mem_append_right _ (List.mem_singleton.mpr rfl)) (pf_obj rfl (by decide)) rfl (v_has 2 (S.2.1) 7000 9 k (LV_it (l2 := 2) (k := k) (LV_2 hS (M := (arN (arC (up2 M 0 15 0) j 200 0) j fa la pa z k)) ((congrFun (arN_n (by omega) k (fun n hn => (hmu n (by omega)).2.2.2.1)) 2).trans ((congrFun (arC_n (by omega)) 2).trans ((up2_n (Or.inl (by decide))).trans hw2)))) rfl) (List.mem_append_right _ (List.mem_singleton.mpr rfl)) rfl up2_s (by omega) itM_0) gX8_arrange_Jx35411_hasNext_aae02_f108Jx35411 (by decide +kernel) rfl rfl rfl hdF_hasNext ⟨Nat.le_of_ble_eq_true rfl, Nat.le_of_ble_eq_true rfl⟩ ⟨Nat.le_of_ble_eq_true rfl, Nat.le_of_ble_eq_true rfl⟩ rfl (Nat.le_of_ble_eq_true rfl) dX8_arrange_95 (fun r9 ad9 L9 f9 hp9 => ?_)
              obtain ⟨he9, hr9⟩ := hp9
              cases he9
              subst hr9
              refine g_if_eq (tgt := 178) hX dX8_arrange_100 (by decide) (fun c_100 => ?_) (fun c_100 => ?_)
              · have c_100 := z01 c_100
                subst c_100
                refine g_lv [1, 2, 3, 4] rfl ?_
                refine g_lvs (lv2 := [(3, .ref (a1 (5000 + j))), (0, .ref (a1 0)), (1, .int (nI j)), (2, .int z)]) (st2 := []) rfl rfl ?_
                refine g_L (L2 := mL S) (fun i hi => List.mem_append_left _ hi) mL_nd ?_
                refine g_f (g := pf dT mK mN (arN (arC (up2 M 0 15 0) j 200 0) j fa la pa z S.2.1) (mR S) a1) (fun i hi => (pf_I (itM_n (fun h => (f_lo (by decide) (by decide) hS) (h ▸ hi)))).trans (pf_R (up2_row (fun h => (f_lo (by decide) (by decide) hS) (h ▸ hi))))) ?_
                refine g_iconst hX (0) dX8_arrange_178 rfl ?_
                refine g_istore hX [(4, .int 0), (3, .ref (a1 (5000 + j))), (0, .ref (a1 0)), (1, .int (nI j)), (2, .int z)] rfl dX8_arrange_179 (by decide) ?_
                refine g_iconst hX (0) dX8_arrange_181 rfl ?_
                refine g_istore hX [(5, .int 0), (4, .int 0), (3, .ref (a1 (5000 + j))), (0, .ref (a1 0)), (1, .int (nI j)), (2, .int z)] rfl dX8_arrange_182 (by decide) ?_
                have lp_184 : ∀ (n9 : Nat) (t : Nat) (q : Nat), 12 - t < n9 → (t ≤ 12) → (q = hsM (arN (arC (up2 M 0 15 0) j 200 0) j fa la pa z S.2.1) j t) → GG X D a1 (mL S) (pf dT mK mN (arN (arC (up2 M 0 15 0) j 200 0) j fa la pa z S.2.1) (mR S) a1) [(5, .int (nI t)), (4, .int (nI q)), (3, .ref (a1 (5000 + j))), (0, .ref (a1 0)), (1, .int (nI j)), (2, .int z)] (0 + 1) (0 + 4) 184 [] := by
                  intro n9
                  induction n9 with
                  | zero => intro t q h9; exact absurd h9 (Nat.not_lt_zero _)
                  | succ n9 ih9 =>
                    intro t q h9 ht hq
                    have ih_184 := ih9
                    refine g_iload hX 0 rfl dX8_arrange_184 ?_
                    refine g_bipush hX (12) dX8_arrange_186 rfl ?_
                    refine g_icmp_ge (tgt := 209) hX dX8_arrange_188 (by decide) (fun c_188 => ?_) (fun c_188 => ?_)
                    · have c_188 : 12 ≤ t := (nI_leI (a := 12) (b := t) (by omega) (by omega)).mp c_188
                      refine g_iload hX 1 rfl dX8_arrange_209 ?_
                      refine b_iret hX hE dX8_arrange_211 (by omega) (by omega) ?_
                      exact ⟨_, aga1, Or.inl ⟨by simp [r1C, c_10], by rw [nI_clamp (n := j) (by omega)], by rw [nI_clamp (n := j) (by omega), hq, show t = 12 by omega]⟩⟩
                    · have c_188 : ¬ 12 ≤ t := fun h9 => c_188 ((nI_leI (a := 12) (b := t) (by omega) (by omega)).mpr h9)
                      refine g_iload hX 1 rfl dX8_arrange_191 ?_
                      refine g_aload_n hX 3 rfl dX8_arrange_193 rfl ?_
                      refine g_iload_n hX 4 rfl dX8_arrange_194 rfl ?_
                      refine g_iload hX 0 rfl dX8_arrange_195 ?_
                      refine b_callI_V hX hM (b := 0) [.int (nI j), .int (nI t)] (m_lo (by decide)) (pf_obj rfl (by decide)) rfl (k_X8_holesAt (arN (arC (up2 M 0 15 0) j 200 0) j fa la pa z S.2.1) S hS ((congrFun (arN_n (by omega) S.2.1 (fun n hn => (hmu n (by omega)).2.2.2.1)) 2).trans ((congrFun (arC_n (by omega)) 2).trans ((up2_n (Or.inl (by decide))).trans hw1))) ((congrFun (arN_n (by omega) S.2.1 (fun n hn => (hmu n (by omega)).2.2.2.1)) 2).trans ((congrFun (arC_n (by omega)) 2).trans ((up2_n (Or.inl (by decide))).trans hw2))) ((congrFun (arN_n (by omega) S.2.1 (fun n hn => (hmu n (by omega)).2.2.2.1)) 2).trans ((congrFun (arC_n (by omega)) 2).trans ((up2_n (Or.inl (by decide))).trans hw3))) j t hj (by omega)) gX8_arrange_X8_holesAt rfl rfl rfl hd_X8_holesAt ⟨Nat.le_of_ble_eq_true rfl, Nat.le_of_ble_eq_true rfl⟩ ⟨Nat.le_of_ble_eq_true rfl, Nat.le_of_ble_eq_true rfl⟩ rfl (Nat.le_of_ble_eq_true rfl) dX8_arrange_197 (fun r9 ad9 L9 f9 hp9 => ?_)
                      obtain ⟨he9, hr9⟩ := hp9
                      cases he9
                      subst hr9
                      refine g_iadd hX dX8_arrange_200 ?_
                      refine g_eqi (y := nI (q + hoM (arN (arC (up2 M 0 15 0) j 200 0) j fa la pa z S.2.1) j t 200)) (nI_add q (hoM (arN (arC (up2 M 0 15 0) j 200 0) j fa la pa z S.2.1) j t 200)) ?_
                      refine g_istore hX [(4, .int (nI (q + hoM (arN (arC (up2 M 0 15 0) j 200 0) j fa la pa z S.2.1) j t 200))), (5, .int (nI t)), (3, .ref (a1 (5000 + j))), (0, .ref (a1 0)), (1, .int (nI j)), (2, .int z)] rfl dX8_arrange_201 (by decide) ?_
                      refine g_iinc hX (nI (t + 1)) [(5, .int (nI (t + 1))), (4, .int (nI (q + hoM (arN (arC (up2 M 0 15 0) j 200 0) j fa la pa z S.2.1) j t 200))), (3, .ref (a1 (5000 + j))), (0, .ref (a1 0)), (1, .int (nI j)), (2, .int z)] (k := 1) rfl (g_inc t) rfl dX8_arrange_203 (by decide) ?_
                      refine g_goto (tgt := 184) hX dX8_arrange_206 (by decide) ?_
                      refine g_lv [0, 1, 2, 3, 4, 5] rfl ?_
                      exact ih_184 (t + 1) (q + hoM (arN (arC (up2 M 0 15 0) j 200 0) j fa la pa z S.2.1) j t 200) (by omega) (by omega) (by rw [hq, hsM])
                refine g_lv [0, 1, 2, 3, 4, 5] rfl ?_
                exact lp_184 _ 0 0 (Nat.lt_succ_self _) (Nat.zero_le _) rfl
              · have c_100 := z00 c_100
                obtain ⟨hf, hl, hp, hfl, hp12⟩ := hmu k (by omega)
                refine g_aload hX 0 rfl dX8_arrange_103 ?_
                refine b_callQ_F hX hM (b := 9) [] (List.mem_append_right _ (List.mem_singleton.mpr rfl)) (pf_obj rfl (by decide)) rfl (v_next 2 (S.2.1) 7000 9 k (LV_it (l2 := 2) (k := k) (LV_2 hS (M := (arN (arC (up2 M 0 15 0) j 200 0) j fa la pa z k)) ((congrFun (arN_n (by omega) k (fun n hn => (hmu n (by omega)).2.2.2.1)) 2).trans ((congrFun (arC_n (by omega)) 2).trans ((up2_n (Or.inl (by decide))).trans hw2)))) rfl) (List.mem_append_right _ (List.mem_singleton.mpr rfl)) rfl up2_s (by omega)) gX8_arrange_Jx35411_next_0502b_f114Jx35411 (by decide +kernel) rfl rfl rfl hdF_next ⟨Nat.le_of_ble_eq_true rfl, Nat.le_of_ble_eq_true rfl⟩ ⟨Nat.le_of_ble_eq_true rfl, Nat.le_of_ble_eq_true rfl⟩ rfl (Nat.le_of_ble_eq_true rfl) dX8_arrange_105 (fun r9 ad9 L9 f9 hp9 => ?_)
                obtain ⟨he9, hr9⟩ := hp9
                cases he9
                subst hr9
                refine b_cast20 (i := (7000 + k)) hX (List.mem_append_left _ (m_n hS (by omega))) (mK_h (by omega)) q_w4 dX8_arrange_110 ?_
                refine g_astore hX [(5, .ref (a1 (7000 + k))), (4, .ref (a1 9)), (3, .ref (a1 (5000 + j))), (0, .ref (a1 0)), (1, .int (nI j)), (2, .int z)] rfl dX8_arrange_113 (by decide) ?_
                refine g_iconst hX (0) dX8_arrange_115 rfl ?_
                refine g_istore hX [(6, .int 0), (5, .ref (a1 (7000 + k))), (4, .ref (a1 9)), (3, .ref (a1 (5000 + j))), (0, .ref (a1 0)), (1, .int (nI j)), (2, .int z)] rfl dX8_arrange_116 (by decide) ?_
                have lp_118 : ∀ (n9 : Nat) (m : Nat), la k - m < n9 → (m ≤ la k) → GG X D a1 ((mL S) ++ [9]) (pf dT mK mN (itM (arK (arN (arC (up2 M 0 15 0) j 200 0) j fa la pa z k) j (fa k) (la k) (pa k) z m) 9 2 (k + 1)) (up2 (mR S) 9 3 (some 2)) a1) [(6, .int (nI m)), (5, .ref (a1 (7000 + k))), (4, .ref (a1 9)), (3, .ref (a1 (5000 + j))), (0, .ref (a1 0)), (1, .int (nI j)), (2, .int z)] (0 + 1) (0 + 4) 118 [] := by
                  intro n9
                  induction n9 with
                  | zero => intro m h9; exact absurd h9 (Nat.not_lt_zero _)
                  | succ n9 ih9 =>
                    intro m h9 hm
                    have ih_118 := ih9
                    refine g_iload hX 0 rfl dX8_arrange_118 ?_
                    refine g_aload hX 1 rfl dX8_arrange_120 ?_
                    refine g_iconst hX (1) dX8_arrange_122 rfl ?_
                    refine h_iald (i := (7000 + k)) hX 1 rfl (by rw [mN_n (by have := hS.2.1; omega)]; omega) (by rw [mN_n (by have := hS.2.1; omega)]; decide) (List.mem_append_left _ (m_n hS (by omega))) (mK_h (by omega)) dX8_arrange_123 ?_
                    refine g_eqi (y := (nI (la k))) ((congrFun (itM_n (by omega)) 1).trans ((congrFun (arK_n m (by omega) (by omega)) 1).trans ((congrFun (arN_n (by omega) k (fun n hn => (hmu n (by omega)).2.2.2.1)) 1).trans ((congrFun (arC_n (by omega)) 1).trans ((up2_n (Or.inl (by omega))).trans hl))))) ?_
                    refine g_icmp_ge (tgt := 175) hX dX8_arrange_124 (by decide) (fun c_124 => ?_) (fun c_124 => ?_)
                    · have c_124 : (la k) ≤ m := (nI_leI (a := (la k)) (b := m) (by omega) (by omega)).mp c_124
                      have hm2 : m = la k := by omega
                      subst hm2
                      refine g_goto (tgt := 93) hX dX8_arrange_175 (by decide) ?_
                      refine g_lv [2, 3, 4, 5, 6] rfl ?_
                      exact ih_93 (k + 1) (by omega) (by omega)
                    · have c_124 : ¬ (la k) ≤ m := fun h9 => c_124 ((nI_leI (a := (la k)) (b := m) (by omega) (by omega)).mpr h9)
                      refine g_aload_n hX 3 rfl dX8_arrange_127 rfl ?_
                      refine g_aload hX 1 rfl dX8_arrange_128 ?_
                      refine g_iconst hX (0) dX8_arrange_130 rfl ?_
                      refine h_iald (i := (7000 + k)) hX 0 rfl (by rw [mN_n (by have := hS.2.1; omega)]; omega) (by rw [mN_n (by have := hS.2.1; omega)]; decide) (List.mem_append_left _ (m_n hS (by omega))) (mK_h (by omega)) dX8_arrange_131 ?_
                      refine g_eqi (y := (nI (fa k))) ((congrFun (itM_n (by omega)) 0).trans ((congrFun (arK_n m (by omega) (by omega)) 0).trans ((congrFun (arN_n (by omega) k (fun n hn => (hmu n (by omega)).2.2.2.1)) 0).trans ((congrFun (arC_n (by omega)) 0).trans ((up2_n (Or.inl (by omega))).trans hf))))) ?_
                      refine g_iload hX 0 rfl dX8_arrange_132 ?_
                      refine g_iadd hX dX8_arrange_134 ?_
                      refine g_eqi (y := nI (fa k + m)) (nI_add (fa k) m) ?_
                      refine h_aald26 (i := (5000 + j)) hX (fa k + m) rfl (by rw [mN_o (by have := hS.1; omega)]; omega) (by rw [mN_o (by have := hS.1; omega)]; decide) (j := (6000 + 200 * j + (fa k + m))) ((up2_n (Or.inl (by omega))).trans (mR_o (by have := hS.1; omega) (by omega))) (List.mem_append_left _ (m_o hS hj)) (mK_o (by have := hS.1; omega)) dX8_arrange_135 ?_
                      refine g_aload hX 1 rfl dX8_arrange_136 ?_
                      refine g_iconst hX (2) dX8_arrange_138 rfl ?_
                      refine h_iald (i := (7000 + k)) hX 2 rfl (by rw [mN_n (by have := hS.2.1; omega)]; omega) (by rw [mN_n (by have := hS.2.1; omega)]; decide) (List.mem_append_left _ (m_n hS (by omega))) (mK_h (by omega)) dX8_arrange_139 ?_
                      refine g_eqi (y := (nI (pa k))) ((congrFun (itM_n (by omega)) 2).trans ((congrFun (arK_n m (by omega) (by omega)) 2).trans ((congrFun (arN_n (by omega) k (fun n hn => (hmu n (by omega)).2.2.2.1)) 2).trans ((congrFun (arC_n (by omega)) 2).trans ((up2_n (Or.inl (by omega))).trans hp))))) ?_
                      refine g_iload_n hX 6 rfl dX8_arrange_140 rfl ?_
                      refine g_if_eq (tgt := 163) hX dX8_arrange_141 (by decide) (fun c_141 => ?_) (fun c_141 => ?_)
                      · refine g_iconst hX (1) dX8_arrange_163 rfl ?_
                        refine g_goto (tgt := 168) hX dX8_arrange_164 (by decide) ?_
                        refine h_zast (i := (6000 + 200 * j + (fa k + m))) hX (pa k) rfl (by rw [mN_r (by have := hS.1; omega) (by omega)]; omega) (by rw [mN_r (by have := hS.1; omega) (by omega)]; decide) (by first | exact Or.inl rfl | exact Or.inr rfl) (List.mem_append_left _ (m_r hS hj (by omega))) (mK_r (by have := hS.1; omega) (by omega)) dX8_arrange_168 ?_
                        refine g_iinc hX (nI (m + 1)) [(6, .int (nI (m + 1))), (5, .ref (a1 (7000 + k))), (4, .ref (a1 9)), (3, .ref (a1 (5000 + j))), (0, .ref (a1 0)), (1, .int (nI j)), (2, .int z)] (k := 0) rfl (g_inc m) rfl dX8_arrange_169 (by decide) ?_
                        refine g_goto (tgt := 118) hX dX8_arrange_172 (by decide) ?_
                        rw [itM_comm (by omega) (by omega), show up2 (arK (arN (arC (up2 M 0 15 0) j 200 0) j fa la pa z k) j (fa k) (la k) (pa k) z m) (6000 + 200 * j + (fa k + m)) (pa k) 1 = (arK (arN (arC (up2 M 0 15 0) j 200 0) j fa la pa z k) j (fa k) (la k) (pa k) z (m + 1)) from by rw [arK, brv, if_pos c_141]]
                        skip
                        refine g_lv [0, 1, 2, 3, 4, 5, 6] rfl ?_
                        exact ih_118 (m + 1) (by omega) (by omega)
                      · refine g_iload hX 0 rfl dX8_arrange_144 ?_
                        refine g_iconst hX (4) dX8_arrange_146 rfl ?_
                        refine g_irem hX dX8_arrange_147 (by decide) ?_
                        refine g_iconst hX (3) dX8_arrange_148 rfl ?_
                        refine g_icmp_ne (tgt := 163) hX dX8_arrange_149 (by decide) (fun c_149 => ?_) (fun c_149 => ?_)
                        · have c_149 := c_149
                          refine g_iconst hX (1) dX8_arrange_163 rfl ?_
                          refine g_goto (tgt := 168) hX dX8_arrange_164 (by decide) ?_
                          refine h_zast (i := (6000 + 200 * j + (fa k + m))) hX (pa k) rfl (by rw [mN_r (by have := hS.1; omega) (by omega)]; omega) (by rw [mN_r (by have := hS.1; omega) (by omega)]; decide) (by first | exact Or.inl rfl | exact Or.inr rfl) (List.mem_append_left _ (m_r hS hj (by omega))) (mK_r (by have := hS.1; omega) (by omega)) dX8_arrange_168 ?_
                          refine g_iinc hX (nI (m + 1)) [(6, .int (nI (m + 1))), (5, .ref (a1 (7000 + k))), (4, .ref (a1 9)), (3, .ref (a1 (5000 + j))), (0, .ref (a1 0)), (1, .int (nI j)), (2, .int z)] (k := 0) rfl (g_inc m) rfl dX8_arrange_169 (by decide) ?_
                          refine g_goto (tgt := 118) hX dX8_arrange_172 (by decide) ?_
                          rw [itM_comm (by omega) (by omega), show up2 (arK (arN (arC (up2 M 0 15 0) j 200 0) j fa la pa z k) j (fa k) (la k) (pa k) z m) (6000 + 200 * j + (fa k + m)) (pa k) 1 = (arK (arN (arC (up2 M 0 15 0) j 200 0) j fa la pa z k) j (fa k) (la k) (pa k) z (m + 1)) from by rw [arK, brv, if_neg c_141, if_neg c_149]]
                          skip
                          refine g_lv [0, 1, 2, 3, 4, 5, 6] rfl ?_
                          exact ih_118 (m + 1) (by omega) (by omega)
                        · have c_149 := c_149
                          refine g_iload hX 0 rfl dX8_arrange_152 ?_
                          refine g_aload hX 1 rfl dX8_arrange_154 ?_
                          refine g_iconst hX (1) dX8_arrange_156 rfl ?_
                          refine h_iald (i := (7000 + k)) hX 1 rfl (by rw [mN_n (by have := hS.2.1; omega)]; omega) (by rw [mN_n (by have := hS.2.1; omega)]; decide) (List.mem_append_left _ (m_n hS (by omega))) (mK_h (by omega)) dX8_arrange_157 ?_
                          refine g_eqi (y := (nI (la k))) ((congrFun (itM_n (by omega)) 1).trans ((congrFun (arK_n m (by omega) (by omega)) 1).trans ((congrFun (arN_n (by omega) k (fun n hn => (hmu n (by omega)).2.2.2.1)) 1).trans ((congrFun (arC_n (by omega)) 1).trans ((up2_n (Or.inl (by omega))).trans hl))))) ?_
                          refine g_iconst hX (1) dX8_arrange_158 rfl ?_
                          refine g_isub hX dX8_arrange_159 ?_
                          refine g_icmp_ne (tgt := 167) hX dX8_arrange_160 (by decide) (fun c_160 => ?_) (fun c_160 => ?_)
                          · have c_160 := c_160
                            refine g_iconst hX (0) dX8_arrange_167 rfl ?_
                            refine h_zast (i := (6000 + 200 * j + (fa k + m))) hX (pa k) rfl (by rw [mN_r (by have := hS.1; omega) (by omega)]; omega) (by rw [mN_r (by have := hS.1; omega) (by omega)]; decide) (by first | exact Or.inl rfl | exact Or.inr rfl) (List.mem_append_left _ (m_r hS hj (by omega))) (mK_r (by have := hS.1; omega) (by omega)) dX8_arrange_168 ?_
                            refine g_iinc hX (nI (m + 1)) [(6, .int (nI (m + 1))), (5, .ref (a1 (7000 + k))), (4, .ref (a1 9)), (3, .ref (a1 (5000 + j))), (0, .ref (a1 0)), (1, .int (nI j)), (2, .int z)] (k := 0) rfl (g_inc m) rfl dX8_arrange_169 (by decide) ?_
                            refine g_goto (tgt := 118) hX dX8_arrange_172 (by decide) ?_
                            rw [itM_comm (by omega) (by omega), show up2 (arK (arN (arC (up2 M 0 15 0) j 200 0) j fa la pa z k) j (fa k) (la k) (pa k) z m) (6000 + 200 * j + (fa k + m)) (pa k) 0 = (arK (arN (arC (up2 M 0 15 0) j 200 0) j fa la pa z k) j (fa k) (la k) (pa k) z (m + 1)) from by rw [arK, brv, if_neg c_141, if_pos c_149, if_neg c_160]]
                            skip
                            refine g_lv [0, 1, 2, 3, 4, 5, 6] rfl ?_
                            exact ih_118 (m + 1) (by omega) (by omega)
                          · have c_160 := c_160
                            refine g_iconst hX (1) dX8_arrange_163 rfl ?_
                            refine g_goto (tgt := 168) hX dX8_arrange_164 (by decide) ?_
                            refine h_zast (i := (6000 + 200 * j + (fa k + m))) hX (pa k) rfl (by rw [mN_r (by have := hS.1; omega) (by omega)]; omega) (by rw [mN_r (by have := hS.1; omega) (by omega)]; decide) (by first | exact Or.inl rfl | exact Or.inr rfl) (List.mem_append_left _ (m_r hS hj (by omega))) (mK_r (by have := hS.1; omega) (by omega)) dX8_arrange_168 ?_
                            refine g_iinc hX (nI (m + 1)) [(6, .int (nI (m + 1))), (5, .ref (a1 (7000 + k))), (4, .ref (a1 9)), (3, .ref (a1 (5000 + j))), (0, .ref (a1 0)), (1, .int (nI j)), (2, .int z)] (k := 0) rfl (g_inc m) rfl dX8_arrange_169 (by decide) ?_
                            refine g_goto (tgt := 118) hX dX8_arrange_172 (by decide) ?_
                            rw [itM_comm (by omega) (by omega), show up2 (arK (arN (arC (up2 M 0 15 0) j 200 0) j fa la pa z k) j (fa k) (la k) (pa k) z m) (6000 + 200 * j + (fa k + m)) (pa k) 1 = (arK (arN (arC (up2 M 0 15 0) j 200 0) j fa la pa z k) j (fa k) (la k) (pa k) z (m + 1)) from by rw [arK, brv, if_neg c_141, if_pos c_149, if_pos c_160]]
                            skip
                            refine g_lv [0, 1, 2, 3, 4, 5, 6] rfl ?_
                            exact ih_118 (m + 1) (by omega) (by omega)
                refine g_lv [0, 1, 2, 3, 4, 5, 6] rfl ?_
                exact lp_118 _ 0 (Nat.lt_succ_self _) (Nat.zero_le _)
          refine g_lv [0, 3, 4, 5, 6] rfl ?_
          exact lp_93 _ 0 (Nat.lt_succ_self _) (Nat.zero_le _)
        · have c_44 : ¬ 200 ≤ r := fun h9 => c_44 ((nI_leI (a := 200) (b := r) (by omega) (by omega)).mpr h9)
          refine g_aload hX 2 rfl dX8_arrange_47 ?_
          refine g_iload hX 0 rfl dX8_arrange_49 ?_
          refine h_aald26 (i := (5000 + j)) hX r rfl (by rw [mN_o (by have := hS.1; omega)]; omega) (by rw [mN_o (by have := hS.1; omega)]; decide) (j := (6000 + 200 * j + r)) (mR_o (by have := hS.1; omega) (by omega)) (m_o hS hj) (mK_o (by have := hS.1; omega)) dX8_arrange_51 ?_
          refine g_astore hX [(7, .ref (ad (6000 + 200 * j + r))), (6, .int (nI r)), (5, .int (nI 200)), (4, .ref (ad (5000 + j))), (3, .ref (ad (5000 + j))), (0, .ref (ad 0)), (1, .int (nI j)), (2, .int z)] rfl dX8_arrange_52 (by decide) ?_
          refine g_iconst hX (0) dX8_arrange_54 rfl ?_
          refine g_istore hX [(8, .int 0), (7, .ref (ad (6000 + 200 * j + r))), (6, .int (nI r)), (5, .int (nI 200)), (4, .ref (ad (5000 + j))), (3, .ref (ad (5000 + j))), (0, .ref (ad 0)), (1, .int (nI j)), (2, .int z)] rfl dX8_arrange_55 (by decide) ?_
          have lp_57 : ∀ (n9 : Nat) (t : Nat), 12 - t < n9 → (t ≤ 12) → GG X D ad (mL S) (pf dT mK mN (arC (up2 M 0 15 0) j r t) (mR S) ad) [(8, .int (nI t)), (7, .ref (ad (6000 + 200 * j + r))), (6, .int (nI r)), (5, .int (nI 200)), (4, .ref (ad (5000 + j))), (3, .ref (ad (5000 + j))), (0, .ref (ad 0)), (1, .int (nI j)), (2, .int z)] (0) (0) 57 [] := by
            intro n9
            induction n9 with
            | zero => intro t h9; exact absurd h9 (Nat.not_lt_zero _)
            | succ n9 ih9 =>
              intro t h9 ht
              have ih_57 := ih9
              refine g_iload hX 0 rfl dX8_arrange_57 ?_
              refine g_bipush hX (12) dX8_arrange_59 rfl ?_
              refine g_icmp_ge (tgt := 76) hX dX8_arrange_61 (by decide) (fun c_61 => ?_) (fun c_61 => ?_)
              · have c_61 : 12 ≤ t := (nI_leI (a := 12) (b := t) (by omega) (by omega)).mp c_61
                have ht12 : t = 12 := by omega
                subst ht12
                rw [arC_r]
                refine g_iinc hX (nI (r + 1)) [(6, .int (nI (r + 1))), (8, .int (nI 12)), (7, .ref (ad (6000 + 200 * j + r))), (5, .int (nI 200)), (4, .ref (ad (5000 + j))), (3, .ref (ad (5000 + j))), (0, .ref (ad 0)), (1, .int (nI j)), (2, .int z)] (k := 2) rfl (g_inc r) rfl dX8_arrange_76 (by decide) ?_
                refine g_goto (tgt := 40) hX dX8_arrange_79 (by decide) ?_
                refine g_lv [0, 3, 4, 5, 6, 7, 8] rfl ?_
                exact ih_40 (r + 1) (by omega) (by omega)
              · have c_61 : ¬ 12 ≤ t := fun h9 => c_61 ((nI_leI (a := 12) (b := t) (by omega) (by omega)).mpr h9)
                refine g_aload hX 1 rfl dX8_arrange_64 ?_
                refine g_iload hX 0 rfl dX8_arrange_66 ?_
                refine g_iconst hX (0) dX8_arrange_68 rfl ?_
                refine h_zast (i := (6000 + 200 * j + r)) hX t rfl (by rw [mN_r (by have := hS.1; omega) (by omega)]; omega) (by rw [mN_r (by have := hS.1; omega) (by omega)]; decide) (by first | exact Or.inl rfl | exact Or.inr rfl) (m_r hS hj (by omega)) (mK_r (by have := hS.1; omega) (by omega)) dX8_arrange_69 ?_
                refine g_iinc hX (nI (t + 1)) [(8, .int (nI (t + 1))), (7, .ref (ad (6000 + 200 * j + r))), (6, .int (nI r)), (5, .int (nI 200)), (4, .ref (ad (5000 + j))), (3, .ref (ad (5000 + j))), (0, .ref (ad 0)), (1, .int (nI j)), (2, .int z)] (k := 0) rfl (g_inc t) rfl dX8_arrange_70 (by decide) ?_
                refine g_goto (tgt := 57) hX dX8_arrange_73 (by decide) ?_
                rw [arC_s (by omega) (by omega)]
                skip
                refine g_lv [0, 1, 2, 3, 4, 5, 6, 7, 8] rfl ?_
                exact ih_57 (t + 1) (by omega) (by omega)
          refine g_lv [0, 1, 2, 3, 4, 5, 6, 7, 8] rfl ?_
          exact lp_57 _ 0 (Nat.lt_succ_self _) (Nat.zero_le _)
    rw [show (up2 M 0 15 0) = (arC (up2 M 0 15 0) j 0 0) from arC_0]
    skip
    refine g_lv [0, 1, 2, 3, 4, 5, 6] rfl ?_
    exact lp_40 _ 0 (Nat.lt_succ_self _) (Nat.zero_le _)
  · have c_10 := z11 c_10
    refine g_iconst hX (0) dX8_arrange_13 rfl ?_
    refine b_iret hX hE dX8_arrange_14 (by omega) (by omega) ?_
    exact ⟨_, AGm_rf, Or.inr ⟨by simp [r1C, c_10], congrArg (fun z => (ad, mL S, mf dT ad z S)) (by simp [r1C, c_10])⟩⟩
