abbrev rm_X8_begins (v w : Nat) : Room := { frames := 7, cells := v, slots := w, locals := 190 }
theorem hd_X8_begins : yX8_begins.cls = RX8 ∧ yX8_begins.cls ≠ "java/lang/invoke/MethodHandle" ∧ yX8_begins.cls ≠ "java/lang/invoke/VarHandle" ∧ (parseMethodDescriptor yX8_begins.desc).map (fun d => d.parameters.length) = some 1 := by decide +kernel
set_option maxRecDepth 100000 in
set_option maxHeartbeats 4000000 in
theorem k_X8_begins {D : va_G} {dT : Nat → ClassId} {Z : ZT} {ad : Nat → Nat} (M : Nat → Nat → Int32) (S : SZ) (hS : WS S) (hw1 : M 1 2 = nI S.1) (hw2 : M 2 2 = nI S.2.1) (hw3 : M 3 2 = nI S.2.2.1) (hz : ad 99999 = Z.1) (v : Nat) (hv : v < 12) (hix : IXP M S) : ∀ l8, BV l8 yX8_begins wsX8_begins (rm_X8_begins (PC (bgz S) - PC S) (PS (bgz S) - PS S)) D (tyl dT) Z ad (mL S ++ [7]) (pf dT mK mN M (mR S) ad) [.ref (ad 0), .int (nI v)] (PC (bgz S) - PC S) (PS (bgz S) - PS S) (fun u => ∃ ad2, AGm (mL S ++ [7]) ad ad2 ∧ u = (ad2, mL (bgz S) ++ [7], mf dT ad2 (bgM M S v) (bgz S))) := by
  intro l9
  refine bv_of (own := RX8) (cc := cX8_begins) (maxL := 3) [(0, .ref (ad 0)), (1, .int (nI v))] (by decide) rfl rfl rfl (Nat.le_of_ble_eq_true rfl) ?_
  intro X hX hE hN hM
  have q_w1 : Cond.fieldLink RX8 24 "PerforatumModel" "valves" "[LPerforatumModel$Valve;" ∈ wsX8_begins := List.mem_of_getElem? (i := 1) rfl
  have q_inX8 : ∀ w ∈ wsX80, w ∈ wsX8_begins := by decide +kernel
  have q_w2 : Cond.fieldLink RX8 180 "PerforatumModel$Valve" "state" "I" ∈ wsX8_begins := List.mem_of_getElem? (i := 2) rfl
  have q_inX7 : ∀ w ∈ wsX70, w ∈ wsX8_begins := by decide +kernel
  have q_w3 : Cond.fieldLink RX8 155 "PerforatumModel" "begun" "I" ∈ wsX8_begins := List.mem_of_getElem? (i := 3) rfl
  have q_w4 : Cond.fieldLink RX8 19 "PerforatumModel" "sounds" "Ljava/util/List;" ∈ wsX8_begins := List.mem_of_getElem? (i := 4) rfl
  have q_w5 : Cond.fieldLink RX8 194 "PerforatumModel$Valve" "index" "I" ∈ wsX8_begins := List.mem_of_getElem? (i := 5) rfl
  have q_w6 : Cond.arrayClass .int ∈ wsX8_begins := List.mem_of_getElem? (i := 6) rfl
  have q_w7 : Cond.fieldLink RX8 201 "PerforatumModel$Valve" "opening" "I" ∈ wsX8_begins := List.mem_of_getElem? (i := 7) rfl
  have q_w8 : Cond.fieldLink RX8 158 "PerforatumModel" "row" "I" ∈ wsX8_begins := List.mem_of_getElem? (i := 8) rfl
  have q_w9 : Cond.fieldLink RX8 161 "PerforatumModel" "suction" "I" ∈ wsX8_begins := List.mem_of_getElem? (i := 9) rfl
  have q_w10 : Cond.fieldLink RX8 164 "PerforatumModel" "level" "I" ∈ wsX8_begins := List.mem_of_getElem? (i := 10) rfl
  have hS1 := hS.1
  have hS2 := hS.2.1
  have hS3 := hS.2.2.1
  refine g_aload_n hX 0 rfl dX8_begins_0 rfl ?_
  refine g_getRs (i := 0) hX 12 3 q_inX8 (List.mem_append_left _ (m_lo (by decide))) rfl (by decide) rfl (by decide) rfl q_w1 rfl (j := 4) rfl dX8_begins_1 ?_
  refine g_iload_n hX 1 rfl dX8_begins_4 rfl ?_
  refine h_aald24 (i := 4) hX v rfl (by show _ < (12 : Nat); omega) (by decide) (j := (20 + v)) (mR_v hv) (List.mem_append_left _ (m_lo (by decide))) rfl dX8_begins_5 ?_
  refine g_astore_n hX [(2, .ref (ad (20 + v))), (0, .ref (ad 0)), (1, .int (nI v))] rfl dX8_begins_6 rfl (by decide) ?_
  refine g_aload_n hX 0 rfl dX8_begins_7 rfl ?_
  refine g_getI (i := (20 + v)) hX 11 7 q_inX7 (List.mem_append_left _ (m_v hv)) (mK_v hv) (by decide) rfl (by decide) rfl q_w2 rfl dX8_begins_8 ?_
  refine g_iconst hX (2) dX8_begins_11 rfl ?_
  refine g_icmp_ne (tgt := 20) hX dX8_begins_12 (by decide) (fun c_12 => ?_) (fun c_12 => ?_)
  · have c_12 := c_12
    rw [show M = (bgE M v) from by rw [bgE, if_neg c_12]]
    refine g_aload_n hX 0 rfl dX8_begins_20 rfl ?_
    refine g_iconst hX (1) dX8_begins_21 rfl ?_
    refine g_putI hX (i := (20 + v)) 11 7 q_inX7 (List.mem_append_left _ (m_v hv)) (mK_v hv) (by decide) rfl (by decide) rfl q_w2 rfl tyX7_ok nmX7 rfl (ty := .int) (by decide +kernel) rfl rfl dX8_begins_22 ?_
    refine g_aload_n hX 1 rfl dX8_begins_25 rfl ?_
    refine g_dup hX dX8_begins_26 rfl ?_
    refine g_getI (i := 0) hX 12 12 q_inX8 (List.mem_append_left _ (m_lo (by decide))) rfl (by decide) rfl (by decide) rfl q_w3 rfl dX8_begins_27 ?_
    refine g_eqi (y := (M 0 12)) ((up2_n (Or.inl (by omega))).trans (congrFun (bgE_n (by omega) (by omega)) 12)) ?_
    refine g_iconst hX (1) dX8_begins_30 rfl ?_
    refine g_iadd hX dX8_begins_31 ?_
    refine g_putI hX (i := 0) 12 12 q_inX8 (List.mem_append_left _ (m_lo (by decide))) rfl (by decide) rfl (by decide) rfl q_w3 rfl tyX8_ok nmX8 rfl (ty := .int) (by decide +kernel) rfl rfl dX8_begins_32 ?_
    refine g_aload_n hX 0 rfl dX8_begins_35 rfl ?_
    refine g_aload_n hX 1 rfl dX8_begins_36 rfl ?_
    refine g_getRs (i := 0) hX 12 2 q_inX8 (List.mem_append_left _ (m_lo (by decide))) rfl (by decide) rfl (by decide) rfl q_w4 rfl (j := 3) rfl dX8_begins_37 ?_
    refine b_callI_F hX hM (b := 3) [] (List.mem_append_left _ (m_lo (by decide))) (pf_obj rfl (by decide)) rfl (k_Jx4a65c_size_8abf5 3 (List.mem_append_left _ (m_lo (by decide))) rfl) gX8_begins_Jx4a65c_size_8abf5_f54Jx4a65c (by decide +kernel) rfl rfl rfl hdF_size ⟨Nat.le_of_ble_eq_true rfl, Nat.le_of_ble_eq_true rfl⟩ ⟨Nat.zero_le _, Nat.zero_le _⟩ rfl (Nat.le_of_ble_eq_true rfl) dX8_begins_40 (fun r9 ad9 L9 f9 hp9 => ?_)
    obtain ⟨he9, hr9⟩ := hp9
    cases he9
    subst hr9
    refine g_eqi (y := (nI S.2.2.1)) ((up2_n (Or.inl (by decide))).trans ((up2_n (Or.inl (by omega))).trans ((congrFun (bgE_n (by omega) (by omega)) 2).trans hw3))) ?_
    refine g_sipush hX (300) dX8_begins_45 rfl ?_
    refine g_icmp_ge (tgt := 63) hX dX8_begins_48 (by decide) (fun c_48 => ?_) (fun c_48 => ?_)
    · have c_48 : 300 ≤ S.2.2.1 := (nI_leI (a := 300) (b := S.2.2.1) (by omega) (by omega)).mp c_48
      refine g_iconst hX (-1) dX8_begins_63 rfl ?_
      refine g_putI hX (i := (20 + v)) 11 8 q_inX7 (List.mem_append_left _ (m_v hv)) (mK_v hv) (by decide) rfl (by decide) rfl q_w5 rfl tyX7_ok nmX7 rfl (ty := .int) (by decide +kernel) rfl rfl dX8_begins_64 ?_
      refine g_aload_n hX 0 rfl dX8_begins_67 rfl ?_
      refine g_getI (i := (20 + v)) hX 11 8 q_inX7 (List.mem_append_left _ (m_v hv)) (mK_v hv) (by decide) rfl (by decide) rfl q_w5 rfl dX8_begins_68 ?_
      refine g_eqi (y := (-1)) up2_s ?_
      refine g_if_lt (tgt := 126) hX dX8_begins_71 (by decide) (fun c_71 => ?_) (fun c_71 => ?_)
      · refine b_vret hX hE dX8_begins_126 (Nat.zero_le _) (Nat.zero_le _) ?_
        exact ⟨_, AGm_rf, by rw [bgz, bgM, if_neg (show ¬ S.2.2.1 < 300 by omega), if_neg (show ¬ S.2.2.1 < 300 by omega)]; rfl⟩
      · first | exact absurd c_71 (by decide) | exact absurd (by decide) c_71
    · have c_48 : ¬ 300 ≤ S.2.2.1 := fun h9 => c_48 ((nI_leI (a := 300) (b := S.2.2.1) (by omega) (by omega)).mpr h9)
      refine g_aload_n hX 1 rfl dX8_begins_51 rfl ?_
      refine g_getRs (i := 0) hX 12 2 q_inX8 (List.mem_append_left _ (m_lo (by decide))) rfl (by decide) rfl (by decide) rfl q_w4 rfl (j := 3) rfl dX8_begins_52 ?_
      refine b_callI_F hX hM (b := 3) [] (List.mem_append_left _ (m_lo (by decide))) (pf_obj rfl (by decide)) rfl (k_Jx4a65c_size_8abf5 3 (List.mem_append_left _ (m_lo (by decide))) rfl) gX8_begins_Jx4a65c_size_8abf5_f54Jx4a65c (by decide +kernel) rfl rfl rfl hdF_size ⟨Nat.le_of_ble_eq_true rfl, Nat.le_of_ble_eq_true rfl⟩ ⟨Nat.zero_le _, Nat.zero_le _⟩ rfl (Nat.le_of_ble_eq_true rfl) dX8_begins_55 (fun r9 ad9 L9 f9 hp9 => ?_)
      obtain ⟨he9, hr9⟩ := hp9
      cases he9
      subst hr9
      refine g_eqi (y := (nI S.2.2.1)) ((up2_n (Or.inl (by decide))).trans ((up2_n (Or.inl (by omega))).trans ((congrFun (bgE_n (by omega) (by omega)) 2).trans hw3))) ?_
      refine g_goto (tgt := 64) hX dX8_begins_60 (by decide) ?_
      refine g_putI hX (i := (20 + v)) 11 8 q_inX7 (List.mem_append_left _ (m_v hv)) (mK_v hv) (by decide) rfl (by decide) rfl q_w5 rfl tyX7_ok nmX7 rfl (ty := .int) (by decide +kernel) rfl rfl dX8_begins_64 ?_
      refine g_aload_n hX 0 rfl dX8_begins_67 rfl ?_
      refine g_getI (i := (20 + v)) hX 11 8 q_inX7 (List.mem_append_left _ (m_v hv)) (mK_v hv) (by decide) rfl (by decide) rfl q_w5 rfl dX8_begins_68 ?_
      refine g_eqi (y := (nI S.2.2.1)) up2_s ?_
      refine g_if_lt (tgt := 126) hX dX8_begins_71 (by decide) (fun c_71 => ?_) (fun c_71 => ?_)
      · exact absurd c_71 (nI_pos (by omega))
      · refine g_aload_n hX 1 rfl dX8_begins_74 rfl ?_
        refine g_getRs (i := 0) hX 12 2 q_inX8 (List.mem_append_left _ (m_lo (by decide))) rfl (by decide) rfl (by decide) rfl q_w4 rfl (j := 3) rfl dX8_begins_75 ?_
        refine g_iconst hX (5) dX8_begins_78 rfl ?_
        refine g_f (g := pf dT mK mN (upr (up2 (up2 (up2 (bgE M v) (20 + v) 7 1) 0 12 ((M 0 12) + 1)) (20 + v) 8 (nI S.2.2.1)) (8000 + S.2.2.1) (fun _ => 0)) (mR S) ad) (fun i hi => pf_I (upr_n (show i ≠ (8000 + S.2.2.1) from fun h => (nm_app (f_s hS (Nat.le_refl _)) (by omega)) (h ▸ hi))).symm) ?_
        refine g_newI hX (8000 + S.2.2.1) (nm_app (f_s hS (Nat.le_refl _)) (by omega)) (no_app0 (mR_no hS (f_s hS (Nat.le_refl _)) (by omega)) (mR_0 (by omega))) 5 (mK_h (by omega)) (mN_s (by omega)) (fun k9 => congrFun upr_s k9) (x := 5) rfl (by decide) q_w6 (by show _ ≤ PC (bgz S) - PC S; rw [bgz, if_pos (show S.2.2.1 < 300 by omega)]; have h9 := PC_add hS (show S.2.2.1 < 300 by omega); omega) (by show _ ≤ PS (bgz S) - PS S; rw [bgz, if_pos (show S.2.2.1 < 300 by omega)]; have h9 := PC_add hS (show S.2.2.1 < 300 by omega); omega) dX8_begins_79 (fun qn1 => ?_)
        obtain ⟨a2, ha2⟩ : ∃ z9, z9 = va_up ad (8000 + S.2.2.1) qn1 := ⟨_, rfl⟩
        have ga2 : ∀ i, i ∈ (mL S ++ [7]) → a2 i = ad i := fun i hi => by rw [ha2]; exact va_up_ne _ _ (fun h => (nm_app (f_s hS (Nat.le_refl _)) (by omega)) (h ▸ hi))
        rw [← ha2]
        refine g_lvs (lv2 := [(2, .ref (a2 (20 + v))), (0, .ref (a2 0)), (1, .int (nI v))]) (st2 := [.ref (a2 (8000 + S.2.2.1)), .ref (a2 3)]) (by rw [ga2 (20 + v) (List.mem_append_left _ (m_v hv)), ga2 0 (List.mem_append_left _ (m_lo (by decide)))]) (by rw [ga2 3 (List.mem_append_left _ (m_lo (by decide)))]) ?_
        have aga2 : AGm (mL S ++ [7]) ad a2 := by rw [ha2]; exact AGm_new AGm_rf (nm_app (f_s hS (Nat.le_refl _)) (by omega)) (by omega)
        refine g_dup hX dX8_begins_81 rfl ?_
        refine g_iconst hX (0) dX8_begins_82 rfl ?_
        refine g_iload_n hX 2 rfl dX8_begins_83 rfl ?_
        refine h_iast (i := (8000 + S.2.2.1)) hX 0 rfl (by rw [mN_s (by have := hS.2.2.1; omega)]; omega) (by rw [mN_s (by have := hS.2.2.1; omega)]; decide) (List.mem_append_right _ (List.mem_singleton.mpr rfl)) (mK_h (by omega)) dX8_begins_84 ?_
        refine g_dup hX dX8_begins_85 rfl ?_
        refine g_iconst hX (1) dX8_begins_86 rfl ?_
        refine g_aload_n hX 0 rfl dX8_begins_87 rfl ?_
        refine g_getI (i := (20 + v)) hX 11 5 q_inX7 (List.mem_append_left _ (List.mem_append_left _ (m_v hv))) (mK_v hv) (by decide) rfl (by decide) rfl q_w7 rfl dX8_begins_88 ?_
        refine g_eqi (y := (M (20 + v) 5)) ((up2_n (Or.inl (by omega))).trans ((congrFun (upr_n (by omega)) 5).trans ((up2_n (Or.inr (by decide))).trans ((up2_n (Or.inl (by omega))).trans ((up2_n (Or.inr (by decide))).trans (bgE_v (by decide) hv)))))) ?_
        refine h_iast (i := (8000 + S.2.2.1)) hX 1 rfl (by rw [mN_s (by have := hS.2.2.1; omega)]; omega) (by rw [mN_s (by have := hS.2.2.1; omega)]; decide) (List.mem_append_right _ (List.mem_singleton.mpr rfl)) (mK_h (by omega)) dX8_begins_91 ?_
        refine g_dup hX dX8_begins_92 rfl ?_
        refine g_iconst hX (2) dX8_begins_93 rfl ?_
        refine g_aload_n hX 1 rfl dX8_begins_94 rfl ?_
        refine g_getI (i := 0) hX 12 7 q_inX8 (List.mem_append_left _ (List.mem_append_left _ (m_lo (by decide)))) rfl (by decide) rfl (by decide) rfl q_w8 rfl dX8_begins_95 ?_
        refine g_eqi (y := (M 0 7)) ((up2_n (Or.inl (by omega))).trans ((up2_n (Or.inl (by omega))).trans ((congrFun (upr_n (by omega)) 7).trans ((up2_n (Or.inl (by omega))).trans ((up2_n (Or.inr (by decide))).trans ((up2_n (Or.inl (by omega))).trans (congrFun (bgE_n (by omega) (by omega)) 7))))))) ?_
        refine h_iast (i := (8000 + S.2.2.1)) hX 2 rfl (by rw [mN_s (by have := hS.2.2.1; omega)]; omega) (by rw [mN_s (by have := hS.2.2.1; omega)]; decide) (List.mem_append_right _ (List.mem_singleton.mpr rfl)) (mK_h (by omega)) dX8_begins_98 ?_
        refine g_dup hX dX8_begins_99 rfl ?_
        refine g_iconst hX (3) dX8_begins_100 rfl ?_
        refine g_iconst hX (-1) dX8_begins_101 rfl ?_
        refine h_iast (i := (8000 + S.2.2.1)) hX 3 rfl (by rw [mN_s (by have := hS.2.2.1; omega)]; omega) (by rw [mN_s (by have := hS.2.2.1; omega)]; decide) (List.mem_append_right _ (List.mem_singleton.mpr rfl)) (mK_h (by omega)) dX8_begins_102 ?_
        refine g_dup hX dX8_begins_103 rfl ?_
        refine g_iconst hX (4) dX8_begins_104 rfl ?_
        refine g_aload_n hX 1 rfl dX8_begins_105 rfl ?_
        refine g_getI (i := 0) hX 12 8 q_inX8 (List.mem_append_left _ (List.mem_append_left _ (m_lo (by decide)))) rfl (by decide) rfl (by decide) rfl q_w9 rfl dX8_begins_106 ?_
        refine g_eqi (y := (M 0 8)) ((up2_n (Or.inl (by omega))).trans ((up2_n (Or.inl (by omega))).trans ((up2_n (Or.inl (by omega))).trans ((up2_n (Or.inl (by omega))).trans ((congrFun (upr_n (by omega)) 8).trans ((up2_n (Or.inl (by omega))).trans ((up2_n (Or.inr (by decide))).trans ((up2_n (Or.inl (by omega))).trans (congrFun (bgE_n (by omega) (by omega)) 8))))))))) ?_
        refine g_aload_n hX 1 rfl dX8_begins_109 rfl ?_
        refine g_getI (i := 0) hX 12 9 q_inX8 (List.mem_append_left _ (List.mem_append_left _ (m_lo (by decide)))) rfl (by decide) rfl (by decide) rfl q_w10 rfl dX8_begins_110 ?_
        refine g_eqi (y := (M 0 9)) ((up2_n (Or.inl (by omega))).trans ((up2_n (Or.inl (by omega))).trans ((up2_n (Or.inl (by omega))).trans ((up2_n (Or.inl (by omega))).trans ((congrFun (upr_n (by omega)) 9).trans ((up2_n (Or.inl (by omega))).trans ((up2_n (Or.inr (by decide))).trans ((up2_n (Or.inl (by omega))).trans (congrFun (bgE_n (by omega) (by omega)) 9))))))))) ?_
        refine g_iconst hX (1) dX8_begins_113 rfl ?_
        refine g_iadd hX dX8_begins_114 ?_
        refine g_imul hX dX8_begins_115 ?_
        refine g_bipush hX (70) dX8_begins_116 rfl ?_
        refine g_idiv hX dX8_begins_118 (by decide) ?_
        refine h_iast (i := (8000 + S.2.2.1)) hX 4 rfl (by rw [mN_s (by have := hS.2.2.1; omega)]; omega) (by rw [mN_s (by have := hS.2.2.1; omega)]; decide) (List.mem_append_right _ (List.mem_singleton.mpr rfl)) (mK_h (by omega)) dX8_begins_119 ?_
        refine b_callI_F hX hM (b := 3) [.ref (a2 (8000 + S.2.2.1))] (List.mem_append_left _ (List.mem_append_left _ (m_lo (by decide)))) (pf_obj rfl (by decide)) rfl (k_add3' (up2 (up2 (up2 (up2 (up2 (upr (up2 (up2 (up2 (bgE M v) (20 + v) 7 1) 0 12 ((M 0 12) + 1)) (20 + v) 8 (nI S.2.2.1)) (8000 + S.2.2.1) (fun _ => 0)) (8000 + S.2.2.1) 0 (nI v)) (8000 + S.2.2.1) 1 (M (20 + v) 5)) (8000 + S.2.2.1) 2 (M 0 7)) (8000 + S.2.2.1) 3 (-1)) (8000 + S.2.2.1) 4 (((M 0 8) * ((M 0 9) + 1)) / 70)) S hS (show S.2.2.1 < 300 by omega) ((up2_n (Or.inl (by omega))).trans ((up2_n (Or.inl (by omega))).trans ((up2_n (Or.inl (by omega))).trans ((up2_n (Or.inl (by omega))).trans ((up2_n (Or.inl (by omega))).trans ((congrFun (upr_n (by omega)) 2).trans ((up2_n (Or.inl (by omega))).trans ((up2_n (Or.inl (by decide))).trans ((up2_n (Or.inl (by omega))).trans ((congrFun (bgE_n (by omega) (by omega)) 2).trans hw3)))))))))) (AGm_z aga2 hz)) gX8_begins_Jx4a65c_add_9ea2d_f70Jx4a65c (by decide +kernel) rfl rfl rfl hdF_add ⟨Nat.le_of_ble_eq_true rfl, Nat.le_of_ble_eq_true rfl⟩ ⟨(by show _ ≤ PC (bgz S) - PC S; rw [bgz, if_pos (show S.2.2.1 < 300 by omega)]; have h9 := PC_add hS (show S.2.2.1 < 300 by omega); omega), (by show _ ≤ PS (bgz S) - PS S; rw [bgz, if_pos (show S.2.2.1 < 300 by omega)]; have h9 := PC_add hS (show S.2.2.1 < 300 by omega); omega)⟩ rfl (Nat.le_of_ble_eq_true rfl) dX8_begins_120 (fun r9 a3 L9 f9 hp9 => ?_)
        obtain ⟨⟨x9, ga3, he9⟩, hr9⟩ := hp9
        cases he9
        subst hr9
        have aga3 : AGm (mL S ++ [7]) ad a3 := AGm_add aga2 (fun i hi => ga3 i (by omega))
        refine g_lvs (lv2 := [(2, .ref (a3 (20 + v))), (0, .ref (a3 0)), (1, .int (nI v))]) (st2 := [.int 1]) (by rw [ga3 (20 + v) (by omega), ga3 0 (by omega)]) rfl ?_
        refine g_pop hX dX8_begins_125 rfl ?_
        refine b_vret hX hE dX8_begins_126 (by show _ ≤ PC (bgz S) - PC S; rw [bgz, if_pos (show S.2.2.1 < 300 by omega)]; have h9 := PC_add hS (show S.2.2.1 < 300 by omega); omega) (by show _ ≤ PS (bgz S) - PS S; rw [bgz, if_pos (show S.2.2.1 < 300 by omega)]; have h9 := PC_add hS (show S.2.2.1 < 300 by omega); omega) ?_
        exact ⟨_, aga3, by rw [bgz, bgM, if_pos (show S.2.2.1 < 300 by omega), if_pos (show S.2.2.1 < 300 by omega)]; rfl⟩
  · have c_12 := c_12
    refine g_aload_n hX 1 rfl dX8_begins_15 rfl ?_
    refine g_aload_n hX 0 rfl dX8_begins_16 rfl ?_
    refine b_callV_V hX hM (b := 0) [.ref (ad (20 + v))] (List.mem_append_left _ (m_lo (by decide))) (pf_obj rfl (by decide)) rfl (k_X8_ends M S hS hw1 hw2 hw3 (fun _ h => List.mem_append_left _ h) (fun _ _ => rfl) v hv (hix v hv (fun e9 => by rw [e9] at c_12; exact absurd c_12 (by decide)))) gX8_begins_X8_ends rfl rfl rfl hd_X8_ends ⟨Nat.le_of_ble_eq_true rfl, Nat.le_of_ble_eq_true rfl⟩ ⟨Nat.zero_le _, Nat.zero_le _⟩ rfl (Nat.le_of_ble_eq_true rfl) dX8_begins_17 (fun ad9 L9 f9 hp9 => ?_)
    cases hp9
    rw [show (endI M v) = (bgE M v) from by rw [bgE, if_pos c_12]]
    refine g_aload_n hX 0 rfl dX8_begins_20 rfl ?_
    refine g_iconst hX (1) dX8_begins_21 rfl ?_
    refine g_putI hX (i := (20 + v)) 11 7 q_inX7 (List.mem_append_left _ (m_v hv)) (mK_v hv) (by decide) rfl (by decide) rfl q_w2 rfl tyX7_ok nmX7 rfl (ty := .int) (by decide +kernel) rfl rfl dX8_begins_22 ?_
    refine g_aload_n hX 1 rfl dX8_begins_25 rfl ?_
    refine g_dup hX dX8_begins_26 rfl ?_
    refine g_getI (i := 0) hX 12 12 q_inX8 (List.mem_append_left _ (m_lo (by decide))) rfl (by decide) rfl (by decide) rfl q_w3 rfl dX8_begins_27 ?_
    refine g_eqi (y := (M 0 12)) ((up2_n (Or.inl (by omega))).trans (congrFun (bgE_n (by omega) (by omega)) 12)) ?_
    refine g_iconst hX (1) dX8_begins_30 rfl ?_
    refine g_iadd hX dX8_begins_31 ?_
    refine g_putI hX (i := 0) 12 12 q_inX8 (List.mem_append_left _ (m_lo (by decide))) rfl (by decide) rfl (by decide) rfl q_w3 rfl tyX8_ok nmX8 rfl (ty := .int) (by decide +kernel) rfl rfl dX8_begins_32 ?_
    refine g_aload_n hX 0 rfl dX8_begins_35 rfl ?_
    refine g_aload_n hX 1 rfl dX8_begins_36 rfl ?_
    refine g_getRs (i := 0) hX 12 2 q_inX8 (List.mem_append_left _ (m_lo (by decide))) rfl (by decide) rfl (by decide) rfl q_w4 rfl (j := 3) rfl dX8_begins_37 ?_
    refine b_callI_F hX hM (b := 3) [] (List.mem_append_left _ (m_lo (by decide))) (pf_obj rfl (by decide)) rfl (k_Jx4a65c_size_8abf5 3 (List.mem_append_left _ (m_lo (by decide))) rfl) gX8_begins_Jx4a65c_size_8abf5_f54Jx4a65c (by decide +kernel) rfl rfl rfl hdF_size ⟨Nat.le_of_ble_eq_true rfl, Nat.le_of_ble_eq_true rfl⟩ ⟨Nat.zero_le _, Nat.zero_le _⟩ rfl (Nat.le_of_ble_eq_true rfl) dX8_begins_40 (fun r9 ad9 L9 f9 hp9 => ?_)
    obtain ⟨he9, hr9⟩ := hp9
    cases he9
    subst hr9
    refine g_eqi (y := (nI S.2.2.1)) ((up2_n (Or.inl (by decide))).trans ((up2_n (Or.inl (by omega))).trans ((congrFun (bgE_n (by omega) (by omega)) 2).trans hw3))) ?_
    refine g_sipush hX (300) dX8_begins_45 rfl ?_
    refine g_icmp_ge (tgt := 63) hX dX8_begins_48 (by decide) (fun c_48 => ?_) (fun c_48 => ?_)
    · have c_48 : 300 ≤ S.2.2.1 := (nI_leI (a := 300) (b := S.2.2.1) (by omega) (by omega)).mp c_48
      refine g_iconst hX (-1) dX8_begins_63 rfl ?_
      refine g_putI hX (i := (20 + v)) 11 8 q_inX7 (List.mem_append_left _ (m_v hv)) (mK_v hv) (by decide) rfl (by decide) rfl q_w5 rfl tyX7_ok nmX7 rfl (ty := .int) (by decide +kernel) rfl rfl dX8_begins_64 ?_
      refine g_aload_n hX 0 rfl dX8_begins_67 rfl ?_
      refine g_getI (i := (20 + v)) hX 11 8 q_inX7 (List.mem_append_left _ (m_v hv)) (mK_v hv) (by decide) rfl (by decide) rfl q_w5 rfl dX8_begins_68 ?_
      refine g_eqi (y := (-1)) up2_s ?_
      refine g_if_lt (tgt := 126) hX dX8_begins_71 (by decide) (fun c_71 => ?_) (fun c_71 => ?_)
      · refine b_vret hX hE dX8_begins_126 (Nat.zero_le _) (Nat.zero_le _) ?_
        exact ⟨_, AGm_rf, by rw [bgz, bgM, if_neg (show ¬ S.2.2.1 < 300 by omega), if_neg (show ¬ S.2.2.1 < 300 by omega)]; rfl⟩
      · first | exact absurd c_71 (by decide) | exact absurd (by decide) c_71
    · have c_48 : ¬ 300 ≤ S.2.2.1 := fun h9 => c_48 ((nI_leI (a := 300) (b := S.2.2.1) (by omega) (by omega)).mpr h9)
      refine g_aload_n hX 1 rfl dX8_begins_51 rfl ?_
      refine g_getRs (i := 0) hX 12 2 q_inX8 (List.mem_append_left _ (m_lo (by decide))) rfl (by decide) rfl (by decide) rfl q_w4 rfl (j := 3) rfl dX8_begins_52 ?_
      refine b_callI_F hX hM (b := 3) [] (List.mem_append_left _ (m_lo (by decide))) (pf_obj rfl (by decide)) rfl (k_Jx4a65c_size_8abf5 3 (List.mem_append_left _ (m_lo (by decide))) rfl) gX8_begins_Jx4a65c_size_8abf5_f54Jx4a65c (by decide +kernel) rfl rfl rfl hdF_size ⟨Nat.le_of_ble_eq_true rfl, Nat.le_of_ble_eq_true rfl⟩ ⟨Nat.zero_le _, Nat.zero_le _⟩ rfl (Nat.le_of_ble_eq_true rfl) dX8_begins_55 (fun r9 ad9 L9 f9 hp9 => ?_)
      obtain ⟨he9, hr9⟩ := hp9
      cases he9
      subst hr9
      refine g_eqi (y := (nI S.2.2.1)) ((up2_n (Or.inl (by decide))).trans ((up2_n (Or.inl (by omega))).trans ((congrFun (bgE_n (by omega) (by omega)) 2).trans hw3))) ?_
      refine g_goto (tgt := 64) hX dX8_begins_60 (by decide) ?_
      refine g_putI hX (i := (20 + v)) 11 8 q_inX7 (List.mem_append_left _ (m_v hv)) (mK_v hv) (by decide) rfl (by decide) rfl q_w5 rfl tyX7_ok nmX7 rfl (ty := .int) (by decide +kernel) rfl rfl dX8_begins_64 ?_
      refine g_aload_n hX 0 rfl dX8_begins_67 rfl ?_
      refine g_getI (i := (20 + v)) hX 11 8 q_inX7 (List.mem_append_left _ (m_v hv)) (mK_v hv) (by decide) rfl (by decide) rfl q_w5 rfl dX8_begins_68 ?_
      refine g_eqi (y := (nI S.2.2.1)) up2_s ?_
      refine g_if_lt (tgt := 126) hX dX8_begins_71 (by decide) (fun c_71 => ?_) (fun c_71 => ?_)
      · exact absurd c_71 (nI_pos (by omega))
      · refine g_aload_n hX 1 rfl dX8_begins_74 rfl ?_
        refine g_getRs (i := 0) hX 12 2 q_inX8 (List.mem_append_left _ (m_lo (by decide))) rfl (by decide) rfl (by decide) rfl q_w4 rfl (j := 3) rfl dX8_begins_75 ?_
        refine g_iconst hX (5) dX8_begins_78 rfl ?_
        refine g_f (g := pf dT mK mN (upr (up2 (up2 (up2 (bgE M v) (20 + v) 7 1) 0 12 ((M 0 12) + 1)) (20 + v) 8 (nI S.2.2.1)) (8000 + S.2.2.1) (fun _ => 0)) (mR S) ad) (fun i hi => pf_I (upr_n (show i ≠ (8000 + S.2.2.1) from fun h => (nm_app (f_s hS (Nat.le_refl _)) (by omega)) (h ▸ hi))).symm) ?_
        refine g_newI hX (8000 + S.2.2.1) (nm_app (f_s hS (Nat.le_refl _)) (by omega)) (no_app0 (mR_no hS (f_s hS (Nat.le_refl _)) (by omega)) (mR_0 (by omega))) 5 (mK_h (by omega)) (mN_s (by omega)) (fun k9 => congrFun upr_s k9) (x := 5) rfl (by decide) q_w6 (by show _ ≤ PC (bgz S) - PC S; rw [bgz, if_pos (show S.2.2.1 < 300 by omega)]; have h9 := PC_add hS (show S.2.2.1 < 300 by omega); omega) (by show _ ≤ PS (bgz S) - PS S; rw [bgz, if_pos (show S.2.2.1 < 300 by omega)]; have h9 := PC_add hS (show S.2.2.1 < 300 by omega); omega) dX8_begins_79 (fun qn4 => ?_)
        obtain ⟨a5, ha5⟩ : ∃ z9, z9 = va_up ad (8000 + S.2.2.1) qn4 := ⟨_, rfl⟩
        have ga5 : ∀ i, i ∈ (mL S ++ [7]) → a5 i = ad i := fun i hi => by rw [ha5]; exact va_up_ne _ _ (fun h => (nm_app (f_s hS (Nat.le_refl _)) (by omega)) (h ▸ hi))
        rw [← ha5]
        refine g_lvs (lv2 := [(2, .ref (a5 (20 + v))), (0, .ref (a5 0)), (1, .int (nI v))]) (st2 := [.ref (a5 (8000 + S.2.2.1)), .ref (a5 3)]) (by rw [ga5 (20 + v) (List.mem_append_left _ (m_v hv)), ga5 0 (List.mem_append_left _ (m_lo (by decide)))]) (by rw [ga5 3 (List.mem_append_left _ (m_lo (by decide)))]) ?_
        have aga5 : AGm (mL S ++ [7]) ad a5 := by rw [ha5]; exact AGm_new AGm_rf (nm_app (f_s hS (Nat.le_refl _)) (by omega)) (by omega)
        refine g_dup hX dX8_begins_81 rfl ?_
        refine g_iconst hX (0) dX8_begins_82 rfl ?_
        refine g_iload_n hX 2 rfl dX8_begins_83 rfl ?_
        refine h_iast (i := (8000 + S.2.2.1)) hX 0 rfl (by rw [mN_s (by have := hS.2.2.1; omega)]; omega) (by rw [mN_s (by have := hS.2.2.1; omega)]; decide) (List.mem_append_right _ (List.mem_singleton.mpr rfl)) (mK_h (by omega)) dX8_begins_84 ?_
        refine g_dup hX dX8_begins_85 rfl ?_
        refine g_iconst hX (1) dX8_begins_86 rfl ?_
        refine g_aload_n hX 0 rfl dX8_begins_87 rfl ?_
        refine g_getI (i := (20 + v)) hX 11 5 q_inX7 (List.mem_append_left _ (List.mem_append_left _ (m_v hv))) (mK_v hv) (by decide) rfl (by decide) rfl q_w7 rfl dX8_begins_88 ?_
        refine g_eqi (y := (M (20 + v) 5)) ((up2_n (Or.inl (by omega))).trans ((congrFun (upr_n (by omega)) 5).trans ((up2_n (Or.inr (by decide))).trans ((up2_n (Or.inl (by omega))).trans ((up2_n (Or.inr (by decide))).trans (bgE_v (by decide) hv)))))) ?_
        refine h_iast (i := (8000 + S.2.2.1)) hX 1 rfl (by rw [mN_s (by have := hS.2.2.1; omega)]; omega) (by rw [mN_s (by have := hS.2.2.1; omega)]; decide) (List.mem_append_right _ (List.mem_singleton.mpr rfl)) (mK_h (by omega)) dX8_begins_91 ?_
        refine g_dup hX dX8_begins_92 rfl ?_
        refine g_iconst hX (2) dX8_begins_93 rfl ?_
        refine g_aload_n hX 1 rfl dX8_begins_94 rfl ?_
        refine g_getI (i := 0) hX 12 7 q_inX8 (List.mem_append_left _ (List.mem_append_left _ (m_lo (by decide)))) rfl (by decide) rfl (by decide) rfl q_w8 rfl dX8_begins_95 ?_
        refine g_eqi (y := (M 0 7)) ((up2_n (Or.inl (by omega))).trans ((up2_n (Or.inl (by omega))).trans ((congrFun (upr_n (by omega)) 7).trans ((up2_n (Or.inl (by omega))).trans ((up2_n (Or.inr (by decide))).trans ((up2_n (Or.inl (by omega))).trans (congrFun (bgE_n (by omega) (by omega)) 7))))))) ?_
        refine h_iast (i := (8000 + S.2.2.1)) hX 2 rfl (by rw [mN_s (by have := hS.2.2.1; omega)]; omega) (by rw [mN_s (by have := hS.2.2.1; omega)]; decide) (List.mem_append_right _ (List.mem_singleton.mpr rfl)) (mK_h (by omega)) dX8_begins_98 ?_
        refine g_dup hX dX8_begins_99 rfl ?_
        refine g_iconst hX (3) dX8_begins_100 rfl ?_
        refine g_iconst hX (-1) dX8_begins_101 rfl ?_
        refine h_iast (i := (8000 + S.2.2.1)) hX 3 rfl (by rw [mN_s (by have := hS.2.2.1; omega)]; omega) (by rw [mN_s (by have := hS.2.2.1; omega)]; decide) (List.mem_append_right _ (List.mem_singleton.mpr rfl)) (mK_h (by omega)) dX8_begins_102 ?_
        refine g_dup hX dX8_begins_103 rfl ?_
        refine g_iconst hX (4) dX8_begins_104 rfl ?_
        refine g_aload_n hX 1 rfl dX8_begins_105 rfl ?_
        refine g_getI (i := 0) hX 12 8 q_inX8 (List.mem_append_left _ (List.mem_append_left _ (m_lo (by decide)))) rfl (by decide) rfl (by decide) rfl q_w9 rfl dX8_begins_106 ?_
        refine g_eqi (y := (M 0 8)) ((up2_n (Or.inl (by omega))).trans ((up2_n (Or.inl (by omega))).trans ((up2_n (Or.inl (by omega))).trans ((up2_n (Or.inl (by omega))).trans ((congrFun (upr_n (by omega)) 8).trans ((up2_n (Or.inl (by omega))).trans ((up2_n (Or.inr (by decide))).trans ((up2_n (Or.inl (by omega))).trans (congrFun (bgE_n (by omega) (by omega)) 8))))))))) ?_
        refine g_aload_n hX 1 rfl dX8_begins_109 rfl ?_
        refine g_getI (i := 0) hX 12 9 q_inX8 (List.mem_append_left _ (List.mem_append_left _ (m_lo (by decide)))) rfl (by decide) rfl (by decide) rfl q_w10 rfl dX8_begins_110 ?_
        refine g_eqi (y := (M 0 9)) ((up2_n (Or.inl (by omega))).trans ((up2_n (Or.inl (by omega))).trans ((up2_n (Or.inl (by omega))).trans ((up2_n (Or.inl (by omega))).trans ((congrFun (upr_n (by omega)) 9).trans ((up2_n (Or.inl (by omega))).trans ((up2_n (Or.inr (by decide))).trans ((up2_n (Or.inl (by omega))).trans (congrFun (bgE_n (by omega) (by omega)) 9))))))))) ?_
        refine g_iconst hX (1) dX8_begins_113 rfl ?_
        refine g_iadd hX dX8_begins_114 ?_
        refine g_imul hX dX8_begins_115 ?_
        refine g_bipush hX (70) dX8_begins_116 rfl ?_
        refine g_idiv hX dX8_begins_118 (by decide) ?_
        refine h_iast (i := (8000 + S.2.2.1)) hX 4 rfl (by rw [mN_s (by have := hS.2.2.1; omega)]; omega) (by rw [mN_s (by have := hS.2.2.1; omega)]; decide) (List.mem_append_right _ (List.mem_singleton.mpr rfl)) (mK_h (by omega)) dX8_begins_119 ?_
        refine b_callI_F hX hM (b := 3) [.ref (a5 (8000 + S.2.2.1))] (List.mem_append_left _ (List.mem_append_left _ (m_lo (by decide)))) (pf_obj rfl (by decide)) rfl (k_add3' (up2 (up2 (up2 (up2 (up2 (upr (up2 (up2 (up2 (bgE M v) (20 + v) 7 1) 0 12 ((M 0 12) + 1)) (20 + v) 8 (nI S.2.2.1)) (8000 + S.2.2.1) (fun _ => 0)) (8000 + S.2.2.1) 0 (nI v)) (8000 + S.2.2.1) 1 (M (20 + v) 5)) (8000 + S.2.2.1) 2 (M 0 7)) (8000 + S.2.2.1) 3 (-1)) (8000 + S.2.2.1) 4 (((M 0 8) * ((M 0 9) + 1)) / 70)) S hS (show S.2.2.1 < 300 by omega) ((up2_n (Or.inl (by omega))).trans ((up2_n (Or.inl (by omega))).trans ((up2_n (Or.inl (by omega))).trans ((up2_n (Or.inl (by omega))).trans ((up2_n (Or.inl (by omega))).trans ((congrFun (upr_n (by omega)) 2).trans ((up2_n (Or.inl (by omega))).trans ((up2_n (Or.inl (by decide))).trans ((up2_n (Or.inl (by omega))).trans ((congrFun (bgE_n (by omega) (by omega)) 2).trans hw3)))))))))) (AGm_z aga5 hz)) gX8_begins_Jx4a65c_add_9ea2d_f70Jx4a65c (by decide +kernel) rfl rfl rfl hdF_add ⟨Nat.le_of_ble_eq_true rfl, Nat.le_of_ble_eq_true rfl⟩ ⟨(by show _ ≤ PC (bgz S) - PC S; rw [bgz, if_pos (show S.2.2.1 < 300 by omega)]; have h9 := PC_add hS (show S.2.2.1 < 300 by omega); omega), (by show _ ≤ PS (bgz S) - PS S; rw [bgz, if_pos (show S.2.2.1 < 300 by omega)]; have h9 := PC_add hS (show S.2.2.1 < 300 by omega); omega)⟩ rfl (Nat.le_of_ble_eq_true rfl) dX8_begins_120 (fun r9 a6 L9 f9 hp9 => ?_)
        obtain ⟨⟨x9, ga6, he9⟩, hr9⟩ := hp9
        cases he9
        subst hr9
        have aga6 : AGm (mL S ++ [7]) ad a6 := AGm_add aga5 (fun i hi => ga6 i (by omega))
        refine g_lvs (lv2 := [(2, .ref (a6 (20 + v))), (0, .ref (a6 0)), (1, .int (nI v))]) (st2 := [.int 1]) (by rw [ga6 (20 + v) (by omega), ga6 0 (by omega)]) rfl ?_
        refine g_pop hX dX8_begins_125 rfl ?_
        refine b_vret hX hE dX8_begins_126 (by show _ ≤ PC (bgz S) - PC S; rw [bgz, if_pos (show S.2.2.1 < 300 by omega)]; have h9 := PC_add hS (show S.2.2.1 < 300 by omega); omega) (by show _ ≤ PS (bgz S) - PS S; rw [bgz, if_pos (show S.2.2.1 < 300 by omega)]; have h9 := PC_add hS (show S.2.2.1 < 300 by omega); omega) ?_
        exact ⟨_, aga6, by rw [bgz, bgM, if_pos (show S.2.2.1 < 300 by omega), if_pos (show S.2.2.1 < 300 by omega)]; rfl⟩
abbrev rm_X8_moves (v w : Nat) : Room := { frames := 8, cells := v, slots := w, locals := 212 }
theorem hd_X8_moves : yX8_moves.cls = RX8 ∧ yX8_moves.cls ≠ "java/lang/invoke/MethodHandle" ∧ yX8_moves.cls ≠ "java/lang/invoke/VarHandle" ∧ (parseMethodDescriptor yX8_moves.desc).map (fun d => d.parameters.length) = some 3 := by decide +kernel
set_option maxRecDepth 100000 in
set_option maxHeartbeats 4000000 in
theorem k_X8_moves {D : va_G} {dT : Nat → ClassId} {Z : ZT} {ad : Nat → Nat} (M : Nat → Nat → Int32) (S : SZ) (hS : WS S) (hw1 : M 1 2 = nI S.1) (hw2 : M 2 2 = nI S.2.1) (hw3 : M 3 2 = nI S.2.2.1) (hz : ad 99999 = Z.1) (v : Nat) (hv : v < 12) (hix : IXP M S) (h p : Int32) : ∀ l8, BV l8 yX8_moves wsX8_moves (rm_X8_moves (PC (mvz M S v h p) - PC S) (PS (mvz M S v h p) - PS S)) D (tyl dT) Z ad (mL S ++ [7]) (pf dT mK mN M (mR S) ad) [.ref (ad 0), .int (nI v), .int h, .int p] (PC (mvz M S v h p) - PC S) (PS (mvz M S v h p) - PS S) (fun u => ∃ ad2, AGm (mL S ++ [7]) ad ad2 ∧ u = (ad2, mL (mvz M S v h p) ++ [7], mf dT ad2 (mvM M S v h p) (mvz M S v h p))) := by
  intro l9
  refine bv_of (own := RX8) (cc := cX8_moves) (maxL := 6) [(0, .ref (ad 0)), (1, .int (nI v)), (2, .int h), (3, .int p)] (by decide) rfl rfl rfl (Nat.le_of_ble_eq_true rfl) ?_
  intro X hX hE hN hM
  have q_w1 : Cond.fieldLink RX8 24 "PerforatumModel" "valves" "[LPerforatumModel$Valve;" ∈ wsX8_moves := List.mem_of_getElem? (i := 1) rfl
  have q_inX8 : ∀ w ∈ wsX80, w ∈ wsX8_moves := by decide +kernel
  have q_w3 : Cond.fieldLink RX8 174 "PerforatumModel$Valve" "open" "Z" ∈ wsX8_moves := List.mem_of_getElem? (i := 3) rfl
  have q_inX7 : ∀ w ∈ wsX70, w ∈ wsX8_moves := by decide +kernel
  have q_w9 : Cond.fieldLink RX8 180 "PerforatumModel$Valve" "state" "I" ∈ wsX8_moves := List.mem_of_getElem? (i := 9) rfl
  have q_w12 : Cond.fieldLink RX8 161 "PerforatumModel" "suction" "I" ∈ wsX8_moves := List.mem_of_getElem? (i := 12) rfl
  have q_w7 : Cond.fieldLink RX8 28 "PerforatumModel" "told" "[I" ∈ wsX8_moves := List.mem_of_getElem? (i := 7) rfl
  have q_w4 : Cond.fieldLink RX8 158 "PerforatumModel" "row" "I" ∈ wsX8_moves := List.mem_of_getElem? (i := 4) rfl
  have q_w5 : Cond.fieldLink RX8 201 "PerforatumModel$Valve" "opening" "I" ∈ wsX8_moves := List.mem_of_getElem? (i := 5) rfl
  have q_w10 : Cond.fieldLink RX8 136 "PerforatumModel$Valve" "delay" "I" ∈ wsX8_moves := List.mem_of_getElem? (i := 10) rfl
  have q_w8 : Cond.fieldLink RX8 177 "PerforatumModel$Valve" "closed" "I" ∈ wsX8_moves := List.mem_of_getElem? (i := 8) rfl
  have q_w11 : Cond.fieldLink RX8 139 "PerforatumModel$Valve" "rest" "I" ∈ wsX8_moves := List.mem_of_getElem? (i := 11) rfl
  have q_w2 : Cond.fieldLink RX8 204 "PerforatumModel$Valve" "misses" "I" ∈ wsX8_moves := List.mem_of_getElem? (i := 2) rfl
  have q_w6 : Cond.fieldLink RX8 152 "PerforatumModel" "openings" "I" ∈ wsX8_moves := List.mem_of_getElem? (i := 6) rfl
  have hS1 := hS.1
  have hS2 := hS.2.1
  have hS3 := hS.2.2.1
  refine g_aload_n hX 0 rfl dX8_moves_0 rfl ?_
  refine g_getRs (i := 0) hX 12 3 q_inX8 (List.mem_append_left _ (m_lo (by decide))) rfl (by decide) rfl (by decide) rfl q_w1 rfl (j := 4) rfl dX8_moves_1 ?_
  refine g_iload_n hX 1 rfl dX8_moves_4 rfl ?_
  refine h_aald24 (i := 4) hX v rfl (by show _ < (12 : Nat); omega) (by decide) (j := (20 + v)) (mR_v hv) (List.mem_append_left _ (m_lo (by decide))) rfl dX8_moves_5 ?_
  refine g_astore hX [(4, .ref (ad (20 + v))), (0, .ref (ad 0)), (1, .int (nI v)), (2, .int h), (3, .int p)] rfl dX8_moves_6 (by decide) ?_
  have jn_193 : GG X D ad (mL S ++ [7]) (pf dT mK mN (moC M v h p) (mR S) ad) [(4, .ref (ad (20 + v))), (0, .ref (ad 0)), (1, .int (nI v)), (2, .int h), (3, .int p)] (0) (0) 193 [.int (dueM (moC M v h p) v)] := by
    refine g_istore hX [(5, .int (dueM (moC M v h p) v)), (4, .ref (ad (20 + v))), (0, .ref (ad 0)), (1, .int (nI v)), (2, .int h), (3, .int p)] rfl dX8_moves_193 (by decide) ?_
    refine g_aload hX 1 rfl dX8_moves_195 ?_
    refine g_getI (i := (20 + v)) hX 11 9 q_inX7 (List.mem_append_left _ (m_v hv)) (mK_v hv) (by decide) rfl (by decide) rfl q_w3 rfl dX8_moves_197 ?_
    refine g_if_eq (tgt := 235) hX dX8_moves_200 (by decide) (fun c_200 => ?_) (fun c_200 => ?_)
    · refine b_vret hX hE dX8_moves_235 (Nat.zero_le _) (Nat.zero_le _) ?_
      have hG : goJ (moC M v h p) v = 0 := by rw [goJ, if_pos c_200]
      exact ⟨_, AGm_rf, by rw [mvM, mvz, if_pos hG, if_pos hG]⟩
    · refine g_aload hX 1 rfl dX8_moves_203 ?_
      refine g_getI (i := (20 + v)) hX 11 7 q_inX7 (List.mem_append_left _ (m_v hv)) (mK_v hv) (by decide) rfl (by decide) rfl q_w9 rfl dX8_moves_205 ?_
      refine g_iconst hX (1) dX8_moves_208 rfl ?_
      refine g_icmp_eq (tgt := 235) hX dX8_moves_209 (by decide) (fun c_209 => ?_) (fun c_209 => ?_)
      · have c_209 := c_209
        refine b_vret hX hE dX8_moves_235 (Nat.zero_le _) (Nat.zero_le _) ?_
        have hG : goJ (moC M v h p) v = 0 := by rw [goJ, if_neg c_200, if_pos c_209]
        exact ⟨_, AGm_rf, by rw [mvM, mvz, if_pos hG, if_pos hG]⟩
      · have c_209 := c_209
        refine g_iload hX 0 rfl dX8_moves_212 ?_
        refine g_if_eq (tgt := 235) hX dX8_moves_214 (by decide) (fun c_214 => ?_) (fun c_214 => ?_)
        · refine b_vret hX hE dX8_moves_235 (Nat.zero_le _) (Nat.zero_le _) ?_
          have hG : goJ (moC M v h p) v = 0 := by rw [goJ, if_neg c_200, if_neg c_209, if_pos c_214]
          exact ⟨_, AGm_rf, by rw [mvM, mvz, if_pos hG, if_pos hG]⟩
        · refine g_aload_n hX 2 rfl dX8_moves_217 rfl ?_
          refine g_getI (i := 0) hX 12 8 q_inX8 (List.mem_append_left _ (m_lo (by decide))) rfl (by decide) rfl (by decide) rfl q_w12 rfl dX8_moves_218 ?_
          refine g_aload_n hX 2 rfl dX8_moves_221 rfl ?_
          refine g_getRs (i := 0) hX 12 4 q_inX8 (List.mem_append_left _ (m_lo (by decide))) rfl (by decide) rfl (by decide) rfl q_w7 rfl (j := 5) rfl dX8_moves_222 ?_
          refine g_iconst hX (1) dX8_moves_225 rfl ?_
          refine h_iald (i := 5) hX 1 rfl (by show _ < (4 : Nat); omega) (by decide) (List.mem_append_left _ (m_lo (by decide))) rfl dX8_moves_226 ?_
          refine g_icmp_lt (tgt := 235) hX dX8_moves_227 (by decide) (fun c_227 => ?_) (fun c_227 => ?_)
          · have c_227 := c_227
            refine b_vret hX hE dX8_moves_235 (Nat.zero_le _) (Nat.zero_le _) ?_
            have hG : goJ (moC M v h p) v = 0 := by rw [goJ, if_neg c_200, if_neg c_209, if_neg c_214, if_pos c_227]
            exact ⟨_, AGm_rf, by rw [mvM, mvz, if_pos hG, if_pos hG]⟩
          · have c_227 := c_227
            refine g_aload_n hX 2 rfl dX8_moves_230 rfl ?_
            refine g_iload_n hX 3 rfl dX8_moves_231 rfl ?_
            have hG : ¬ goJ (moC M v h p) v = 0 := by rw [goJ, if_neg c_200, if_neg c_209, if_neg c_214, if_neg c_227]; decide
            have hP9 := PI_moC (h := h) (p := p) hv ⟨hS, hw1, hw2, hw3, hix⟩
            refine b_callV_V hX hM (b := 0) [.int (nI v)] (List.mem_append_left _ (m_lo (by decide))) (pf_obj rfl (by decide)) rfl (k_X8_begins (moC M v h p) S hP9.1 hP9.2.1 hP9.2.2.1 hP9.2.2.2.1 hz v hv hP9.2.2.2.2) gX8_moves_X8_begins rfl rfl rfl hd_X8_begins ⟨Nat.le_of_ble_eq_true rfl, Nat.le_of_ble_eq_true rfl⟩ ⟨(by show _ ≤ PC (mvz M S v h p) - PC S; rw [mvz, if_neg hG]; omega), (by show _ ≤ PS (mvz M S v h p) - PS S; rw [mvz, if_neg hG]; omega)⟩ rfl (Nat.le_of_ble_eq_true rfl) dX8_moves_232 (fun a1 L9 f9 hp9 => ?_)
            obtain ⟨x9, ga1, he9⟩ := hp9
            cases he9
            have aga1 : AGm (mL S ++ [7]) ad a1 := AGm_tr AGm_rf ga1 (fun _ h => h)
            refine g_lvs (lv2 := [(5, .int (dueM (moC M v h p) v)), (4, .ref (a1 (20 + v))), (0, .ref (a1 0)), (1, .int (nI v)), (2, .int h), (3, .int p)]) (st2 := []) (by rw [ga1 (20 + v) (Or.inl (List.mem_append_left _ (m_v hv))) (by omega) (Or.inl (by omega)), ga1 0 (Or.inl (List.mem_append_left _ (m_lo (by decide)))) (by omega) (Or.inl (by omega))]) rfl ?_
            refine b_vret hX hE dX8_moves_235 (by show _ ≤ PC (mvz M S v h p) - PC S; rw [mvz, if_neg hG]; omega) (by show _ ≤ PS (mvz M S v h p) - PS S; rw [mvz, if_neg hG]; omega) ?_
            exact ⟨_, aga1, by rw [mvM, mvz, if_neg hG, if_neg hG]⟩
  have jn_144 : GG X D ad (mL S ++ [7]) (pf dT mK mN (moC M v h p) (mR S) ad) [(4, .ref (ad (20 + v))), (0, .ref (ad 0)), (1, .int (nI v)), (2, .int h), (3, .int p)] (0) (0) 144 [] := by
    refine g_aload_n hX 1 rfl dX8_moves_144 rfl ?_
    refine g_getI (i := 0) hX 12 7 q_inX8 (List.mem_append_left _ (m_lo (by decide))) rfl (by decide) rfl (by decide) rfl q_w4 rfl dX8_moves_145 ?_
    refine g_aload hX 0 rfl dX8_moves_148 ?_
    refine g_getI (i := (20 + v)) hX 11 5 q_inX7 (List.mem_append_left _ (m_v hv)) (mK_v hv) (by decide) rfl (by decide) rfl q_w5 rfl dX8_moves_150 ?_
    refine g_aload hX 0 rfl dX8_moves_153 ?_
    refine g_getI (i := (20 + v)) hX 11 0 q_inX7 (List.mem_append_left _ (m_v hv)) (mK_v hv) (by decide) rfl (by decide) rfl q_w10 rfl dX8_moves_155 ?_
    refine g_iadd hX dX8_moves_158 ?_
    refine g_icmp_lt (tgt := 192) hX dX8_moves_159 (by decide) (fun c_159 => ?_) (fun c_159 => ?_)
    · have c_159 := c_159
      refine g_iconst hX (0) dX8_moves_192 rfl ?_
      refine g_eqi (y := dueM (moC M v h p) v) (by rw [dueM, if_pos c_159]) ?_
      refine g_lv [0, 1, 2, 3, 4] rfl ?_
      exact jn_193  
    · have c_159 := c_159
      refine g_aload hX 0 rfl dX8_moves_162 ?_
      refine g_getI (i := (20 + v)) hX 11 6 q_inX7 (List.mem_append_left _ (m_v hv)) (mK_v hv) (by decide) rfl (by decide) rfl q_w8 rfl dX8_moves_164 ?_
      refine g_if_lt (tgt := 188) hX dX8_moves_167 (by decide) (fun c_167 => ?_) (fun c_167 => ?_)
      · refine g_iconst hX (1) dX8_moves_188 rfl ?_
        refine g_goto (tgt := 193) hX dX8_moves_189 (by decide) ?_
        refine g_eqi (y := dueM (moC M v h p) v) (by rw [dueM, if_neg c_159, if_pos c_167]) ?_
        refine g_lv [0, 1, 2, 3, 4] rfl ?_
        exact jn_193  
      · refine g_aload_n hX 1 rfl dX8_moves_170 rfl ?_
        refine g_getI (i := 0) hX 12 7 q_inX8 (List.mem_append_left _ (m_lo (by decide))) rfl (by decide) rfl (by decide) rfl q_w4 rfl dX8_moves_171 ?_
        refine g_aload hX 0 rfl dX8_moves_174 ?_
        refine g_getI (i := (20 + v)) hX 11 6 q_inX7 (List.mem_append_left _ (m_v hv)) (mK_v hv) (by decide) rfl (by decide) rfl q_w8 rfl dX8_moves_176 ?_
        refine g_aload hX 0 rfl dX8_moves_179 ?_
        refine g_getI (i := (20 + v)) hX 11 1 q_inX7 (List.mem_append_left _ (m_v hv)) (mK_v hv) (by decide) rfl (by decide) rfl q_w11 rfl dX8_moves_181 ?_
        refine g_iadd hX dX8_moves_184 ?_
        refine g_icmp_lt (tgt := 192) hX dX8_moves_185 (by decide) (fun c_185 => ?_) (fun c_185 => ?_)
        · have c_185 := c_185
          refine g_iconst hX (0) dX8_moves_192 rfl ?_
          refine g_eqi (y := dueM (moC M v h p) v) (by rw [dueM, if_neg c_159, if_neg c_167, if_pos c_185]) ?_
          refine g_lv [0, 1, 2, 3, 4] rfl ?_
          exact jn_193  
        · have c_185 := c_185
          refine g_iconst hX (1) dX8_moves_188 rfl ?_
          refine g_goto (tgt := 193) hX dX8_moves_189 (by decide) ?_
          refine g_eqi (y := dueM (moC M v h p) v) (by rw [dueM, if_neg c_159, if_neg c_167, if_neg c_185]) ?_
          refine g_lv [0, 1, 2, 3, 4] rfl ?_
          exact jn_193  
  have jn_125 : GG X D ad (mL S ++ [7]) (pf dT mK mN (moB M v h) (mR S) ad) [(4, .ref (ad (20 + v))), (0, .ref (ad 0)), (1, .int (nI v)), (2, .int h), (3, .int p)] (0) (0) 125 [] := by
    refine g_aload hX 0 rfl dX8_moves_125 ?_
    refine g_getI (i := (20 + v)) hX 11 7 q_inX7 (List.mem_append_left _ (m_v hv)) (mK_v hv) (by decide) rfl (by decide) rfl q_w9 rfl dX8_moves_127 ?_
    refine g_iconst hX (2) dX8_moves_130 rfl ?_
    refine g_icmp_ne (tgt := 144) hX dX8_moves_131 (by decide) (fun c_131 => ?_) (fun c_131 => ?_)
    · have c_131 := c_131
      rw [show (moB M v h) = (moC M v h p) from by rw [moC, moCf, if_neg c_131]]
      refine g_lv [0, 1, 2, 3, 4] rfl ?_
      exact jn_144  
    · have c_131 := c_131
      refine g_iload_n hX 4 rfl dX8_moves_134 rfl ?_
      refine g_if_ne (tgt := 144) hX dX8_moves_135 (by decide) (fun c_135 => ?_) (fun c_135 => ?_)
      · rw [show (moB M v h) = (moC M v h p) from by rw [moC, moCf, if_pos c_131, if_neg c_135]]
        refine g_lv [0, 1, 2, 3, 4] rfl ?_
        exact jn_144  
      · refine g_aload_n hX 1 rfl dX8_moves_138 rfl ?_
        refine g_aload hX 0 rfl dX8_moves_139 ?_
        refine b_callV_V hX hM (b := 0) [.ref (ad (20 + v))] (List.mem_append_left _ (m_lo (by decide))) (pf_obj rfl (by decide)) rfl (k_X8_ends (moB M v h) S hS ((congrFun ((moB_n (by omega)).trans (moA_n (by omega) (by omega))) 2).trans hw1) ((congrFun ((moB_n (by omega)).trans (moA_n (by omega) (by omega))) 2).trans hw2) ((congrFun ((moB_n (by omega)).trans (moA_n (by omega) (by omega))) 2).trans hw3) (fun _ h => List.mem_append_left _ h) (fun _ _ => rfl) v hv (by rw [moB_v (by decide) (by decide) (by decide), moA_v (by decide) (by decide) (by decide)]; exact hix v hv (moB_7n (h := h) (fun e9 => by rw [e9] at c_131; exact absurd c_131 (by decide))))) gX8_moves_X8_ends rfl rfl rfl hd_X8_ends ⟨Nat.le_of_ble_eq_true rfl, Nat.le_of_ble_eq_true rfl⟩ ⟨Nat.zero_le _, Nat.zero_le _⟩ rfl (Nat.le_of_ble_eq_true rfl) dX8_moves_141 (fun ad9 L9 f9 hp9 => ?_)
        cases hp9
        rw [show (endI (moB M v h) v) = (moC M v h p) from by rw [moC, moCf, if_pos c_131, if_pos c_135]]
        refine g_lv [0, 1, 2, 3, 4] rfl ?_
        exact jn_144  
  have jn_65 : GG X D ad (mL S ++ [7]) (pf dT mK mN (moA M v h) (mR S) ad) [(4, .ref (ad (20 + v))), (0, .ref (ad 0)), (1, .int (nI v)), (2, .int h), (3, .int p)] (0) (0) 65 [] := by
    refine g_aload hX 0 rfl dX8_moves_65 ?_
    refine g_getI (i := (20 + v)) hX 11 9 q_inX7 (List.mem_append_left _ (m_v hv)) (mK_v hv) (by decide) rfl (by decide) rfl q_w3 rfl dX8_moves_67 ?_
    refine g_if_eq (tgt := 125) hX dX8_moves_70 (by decide) (fun c_70 => ?_) (fun c_70 => ?_)
    · rw [show (moA M v h) = (moB M v h) from by rw [moB, moBf, if_pos c_70]]
      refine g_lv [0, 1, 2, 3, 4] rfl ?_
      exact jn_125  
    · refine g_aload hX 0 rfl dX8_moves_73 ?_
      refine g_getI (i := (20 + v)) hX 11 4 q_inX7 (List.mem_append_left _ (m_v hv)) (mK_v hv) (by decide) rfl (by decide) rfl q_w2 rfl dX8_moves_75 ?_
      refine g_aload_n hX 1 rfl dX8_moves_78 rfl ?_
      refine g_getRs (i := 0) hX 12 4 q_inX8 (List.mem_append_left _ (m_lo (by decide))) rfl (by decide) rfl (by decide) rfl q_w7 rfl (j := 5) rfl dX8_moves_79 ?_
      refine g_iconst hX (0) dX8_moves_82 rfl ?_
      refine h_iald (i := 5) hX 0 rfl (by show _ < (4 : Nat); omega) (by decide) (List.mem_append_left _ (m_lo (by decide))) rfl dX8_moves_83 ?_
      refine g_icmp_le (tgt := 125) hX dX8_moves_84 (by decide) (fun c_84 => ?_) (fun c_84 => ?_)
      · have c_84 := c_84
        rw [show (moA M v h) = (moB M v h) from by rw [moB, moBf, if_neg c_70, if_pos c_84]]
        refine g_lv [0, 1, 2, 3, 4] rfl ?_
        exact jn_125  
      · have c_84 := c_84
        refine g_aload hX 0 rfl dX8_moves_87 ?_
        refine g_iconst hX (0) dX8_moves_89 rfl ?_
        refine g_putI hX (i := (20 + v)) 11 9 q_inX7 (List.mem_append_left _ (m_v hv)) (mK_v hv) (by decide) rfl (by decide) rfl q_w3 rfl tyX7_ok nmX7 rfl (ty := .boolean) (by decide +kernel) rfl rfl dX8_moves_90 ?_
        refine g_aload hX 0 rfl dX8_moves_93 ?_
        refine g_aload_n hX 1 rfl dX8_moves_95 rfl ?_
        refine g_getI (i := 0) hX 12 7 q_inX8 (List.mem_append_left _ (m_lo (by decide))) rfl (by decide) rfl (by decide) rfl q_w4 rfl dX8_moves_96 ?_
        refine g_eqi (y := ((moA M v h) 0 7)) (up2_n (Or.inl (by omega))) ?_
        refine g_putI hX (i := (20 + v)) 11 6 q_inX7 (List.mem_append_left _ (m_v hv)) (mK_v hv) (by decide) rfl (by decide) rfl q_w8 rfl tyX7_ok nmX7 rfl (ty := .int) (by decide +kernel) rfl rfl dX8_moves_99 ?_
        refine g_aload hX 0 rfl dX8_moves_102 ?_
        refine g_aload hX 0 rfl dX8_moves_104 ?_
        refine g_getI (i := (20 + v)) hX 11 7 q_inX7 (List.mem_append_left _ (m_v hv)) (mK_v hv) (by decide) rfl (by decide) rfl q_w9 rfl dX8_moves_106 ?_
        refine g_eqi (y := ((moA M v h) (20 + v) 7)) ((up2_n (Or.inr (by decide))).trans (up2_n (Or.inr (by decide)))) ?_
        refine g_iconst hX (1) dX8_moves_109 rfl ?_
        refine g_icmp_ne (tgt := 117) hX dX8_moves_110 (by decide) (fun c_110 => ?_) (fun c_110 => ?_)
        · have c_110 := c_110
          refine g_aload hX 0 rfl dX8_moves_117 ?_
          refine g_getI (i := (20 + v)) hX 11 7 q_inX7 (List.mem_append_left _ (m_v hv)) (mK_v hv) (by decide) rfl (by decide) rfl q_w9 rfl dX8_moves_119 ?_
          refine g_eqi (y := ((moA M v h) (20 + v) 7)) ((up2_n (Or.inr (by decide))).trans (up2_n (Or.inr (by decide)))) ?_
          refine g_putI hX (i := (20 + v)) 11 7 q_inX7 (List.mem_append_left _ (m_v hv)) (mK_v hv) (by decide) rfl (by decide) rfl q_w9 rfl tyX7_ok nmX7 rfl (ty := .int) (by decide +kernel) rfl rfl dX8_moves_122 ?_
          rw [show (up2 (up2 (up2 (moA M v h) (20 + v) 9 0) (20 + v) 6 ((moA M v h) 0 7)) (20 + v) 7 ((moA M v h) (20 + v) 7)) = (moB M v h) from by rw [moB, moBf, if_neg c_70, if_neg c_84, if_neg c_110]]
          refine g_lv [0, 1, 2, 3, 4] rfl ?_
          exact jn_125  
        · have c_110 := c_110
          refine g_iconst hX (2) dX8_moves_113 rfl ?_
          refine g_goto (tgt := 122) hX dX8_moves_114 (by decide) ?_
          refine g_putI hX (i := (20 + v)) 11 7 q_inX7 (List.mem_append_left _ (m_v hv)) (mK_v hv) (by decide) rfl (by decide) rfl q_w9 rfl tyX7_ok nmX7 rfl (ty := .int) (by decide +kernel) rfl rfl dX8_moves_122 ?_
          rw [show (up2 (up2 (up2 (moA M v h) (20 + v) 9 0) (20 + v) 6 ((moA M v h) 0 7)) (20 + v) 7 2) = (moB M v h) from by rw [moB, moBf, if_neg c_70, if_neg c_84, if_pos c_110]]
          refine g_lv [0, 1, 2, 3, 4] rfl ?_
          exact jn_125  
  refine g_aload hX 0 rfl dX8_moves_8 ?_
  refine g_iload_n hX 3 rfl dX8_moves_10 rfl ?_
  refine g_if_eq (tgt := 18) hX dX8_moves_11 (by decide) (fun c_11 => ?_) (fun c_11 => ?_)
  · refine g_aload hX 0 rfl dX8_moves_18 ?_
    refine g_getI (i := (20 + v)) hX 11 4 q_inX7 (List.mem_append_left _ (m_v hv)) (mK_v hv) (by decide) rfl (by decide) rfl q_w2 rfl dX8_moves_20 ?_
    refine g_iconst hX (1) dX8_moves_23 rfl ?_
    refine g_iadd hX dX8_moves_24 ?_
    refine g_putI hX (i := (20 + v)) 11 4 q_inX7 (List.mem_append_left _ (m_v hv)) (mK_v hv) (by decide) rfl (by decide) rfl q_w2 rfl tyX7_ok nmX7 rfl (ty := .int) (by decide +kernel) rfl rfl dX8_moves_25 ?_
    refine g_iload_n hX 3 rfl dX8_moves_28 rfl ?_
    refine g_if_eq (tgt := 65) hX dX8_moves_29 (by decide) (fun c_29 => ?_) (fun c_29 => ?_)
    · rw [show (up2 M (20 + v) 4 ((M (20 + v) 4) + 1)) = (moA M v h) from by rw [moA, if_pos c_11, mo1, if_pos c_11]]
      refine g_lv [0, 1, 2, 3, 4] rfl ?_
      exact jn_65  
    · first | exact absurd c_11 c_29 | exact absurd c_29 c_11
  · refine g_iconst hX (0) dX8_moves_14 rfl ?_
    refine g_goto (tgt := 25) hX dX8_moves_15 (by decide) ?_
    refine g_putI hX (i := (20 + v)) 11 4 q_inX7 (List.mem_append_left _ (m_v hv)) (mK_v hv) (by decide) rfl (by decide) rfl q_w2 rfl tyX7_ok nmX7 rfl (ty := .int) (by decide +kernel) rfl rfl dX8_moves_25 ?_
    refine g_iload_n hX 3 rfl dX8_moves_28 rfl ?_
    refine g_if_eq (tgt := 65) hX dX8_moves_29 (by decide) (fun c_29 => ?_) (fun c_29 => ?_)
    · first | exact absurd c_11 c_29 | exact absurd c_29 c_11
    · refine g_aload hX 0 rfl dX8_moves_32 ?_
      refine g_getI (i := (20 + v)) hX 11 9 q_inX7 (List.mem_append_left _ (m_v hv)) (mK_v hv) (by decide) rfl (by decide) rfl q_w3 rfl dX8_moves_34 ?_
      refine g_eqi (y := (M (20 + v) 9)) (up2_n (Or.inr (by decide))) ?_
      refine g_if_ne (tgt := 65) hX dX8_moves_37 (by decide) (fun c_37 => ?_) (fun c_37 => ?_)
      · rw [show (up2 M (20 + v) 4 0) = (moA M v h) from by rw [moA, if_neg c_11, if_neg c_37, mo1, if_neg c_11]]
        refine g_lv [0, 1, 2, 3, 4] rfl ?_
        exact jn_65  
      · refine g_aload hX 0 rfl dX8_moves_40 ?_
        refine g_iconst hX (1) dX8_moves_42 rfl ?_
        refine g_putI hX (i := (20 + v)) 11 9 q_inX7 (List.mem_append_left _ (m_v hv)) (mK_v hv) (by decide) rfl (by decide) rfl q_w3 rfl tyX7_ok nmX7 rfl (ty := .boolean) (by decide +kernel) rfl rfl dX8_moves_43 ?_
        refine g_aload hX 0 rfl dX8_moves_46 ?_
        refine g_aload_n hX 1 rfl dX8_moves_48 rfl ?_
        refine g_getI (i := 0) hX 12 7 q_inX8 (List.mem_append_left _ (m_lo (by decide))) rfl (by decide) rfl (by decide) rfl q_w4 rfl dX8_moves_49 ?_
        refine g_eqi (y := (M 0 7)) ((up2_n (Or.inl (by omega))).trans (up2_n (Or.inl (by omega)))) ?_
        refine g_putI hX (i := (20 + v)) 11 5 q_inX7 (List.mem_append_left _ (m_v hv)) (mK_v hv) (by decide) rfl (by decide) rfl q_w5 rfl tyX7_ok nmX7 rfl (ty := .int) (by decide +kernel) rfl rfl dX8_moves_52 ?_
        refine g_aload_n hX 1 rfl dX8_moves_55 rfl ?_
        refine g_dup hX dX8_moves_56 rfl ?_
        refine g_getI (i := 0) hX 12 11 q_inX8 (List.mem_append_left _ (m_lo (by decide))) rfl (by decide) rfl (by decide) rfl q_w6 rfl dX8_moves_57 ?_
        refine g_eqi (y := (M 0 11)) ((up2_n (Or.inl (by omega))).trans ((up2_n (Or.inl (by omega))).trans (up2_n (Or.inl (by omega))))) ?_
        refine g_iconst hX (1) dX8_moves_60 rfl ?_
        refine g_iadd hX dX8_moves_61 ?_
        refine g_putI hX (i := 0) 12 11 q_inX8 (List.mem_append_left _ (m_lo (by decide))) rfl (by decide) rfl (by decide) rfl q_w6 rfl tyX8_ok nmX8 rfl (ty := .int) (by decide +kernel) rfl rfl dX8_moves_62 ?_
        rw [show (up2 (up2 (up2 (up2 M (20 + v) 4 0) (20 + v) 9 1) (20 + v) 5 (M 0 7)) 0 11 ((M 0 11) + 1)) = (moA M v h) from by rw [moA, if_neg c_11, if_pos c_37, mo1, if_neg c_11]]
        refine g_lv [0, 1, 2, 3, 4] rfl ?_
        exact jn_65  
