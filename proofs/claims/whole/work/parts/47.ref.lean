abbrev rm_X8_meanLoud : Room := { frames := 3, cells := 1, slots := 4, locals := 64 }
theorem hd_X8_meanLoud : yX8_meanLoud.cls = RX8 ∧ yX8_meanLoud.cls ≠ "java/lang/invoke/MethodHandle" ∧ yX8_meanLoud.cls ≠ "java/lang/invoke/VarHandle" ∧ (parseMethodDescriptor yX8_meanLoud.desc).map (fun d => d.parameters.length) = some 0 := by decide +kernel
set_option maxRecDepth 100000 in
set_option maxHeartbeats 4000000 in
theorem k_X8_meanLoud {D : va_G} {dT : Nat → ClassId} {Z : ZT} {ad : Nat → Nat} (M : Nat → Nat → Int32) (S : SZ) (hS : WS S) (hw1 : M 1 2 = nI S.1) (hw2 : M 2 2 = nI S.2.1) (hw3 : M 3 2 = nI S.2.2.1) : ∀ l8, BZ l8 yX8_meanLoud wsX8_meanLoud rm_X8_meanLoud D (tyl dT) Z ad (mL S) (pf dT mK mN M (mR S) ad) [.ref (ad 0)] 1 4 (fun r u => (∃ ad2, AGm (mL S) ad ad2 ∧ u = (ad2, mL S, mf dT ad2 (up2 M 0 15 (if S.2.2.1 = 0 then 1 else 0)) S)) ∧ (S.2.2.1 = 0 ∨ FP.ddiv (FP.i2d (smM M S.2.2.1)) (FP.i2d (nI S.2.2.1)) = r)) := by
  intro l9
  refine bz_of (own := RX8) (cc := cX8_meanLoud) (maxL := 4) [(0, .ref (ad 0))] (by decide) rfl rfl rfl (Nat.le_of_ble_eq_true rfl) ?_
  intro X hX hE hN hM
  have q_w1 : Cond.fieldLink RX8 19 "PerforatumModel" "sounds" "Ljava/util/List;" ∈ wsX8_meanLoud := List.mem_of_getElem? (i := 1) rfl
  have q_inX8 : ∀ w ∈ wsX80, w ∈ wsX8_meanLoud := by decide +kernel
  have q_w2 : Cond.classLink RX8 117 "[I" ∈ wsX8_meanLoud := List.mem_of_getElem? (i := 2) rfl
  have hS1 := hS.1
  have hS2 := hS.2.1
  have hS3 := hS.2.2.1
  refine g_iconst hX (0) dX8_meanLoud_0 rfl ?_
  refine g_istore_n hX [(1, .int 0), (0, .ref (ad 0))] rfl dX8_meanLoud_1 rfl (by decide) ?_
  refine g_aload_n hX 1 rfl dX8_meanLoud_2 rfl ?_
  refine g_getRs (i := 0) hX 12 2 q_inX8 (m_lo (by decide)) rfl (by decide) rfl (by decide) rfl q_w1 rfl (j := 3) rfl dX8_meanLoud_3 ?_
  refine b_callQ_F hX hM (b := 3) [] (m_lo (by decide)) (pf_obj rfl (by decide)) rfl (v_iter 3 (S.2.2.1) 8000 9 (LV_3 hS (M := M) hw3) rfl (f_lo (by decide) (by decide) hS) (mR_no hS (f_lo (by decide) (by decide) hS) (by omega)) (mR_0 (by omega))) gX8_meanLoud_Jx4a65c_iterator_32c93_f104Jx4a65c (by decide +kernel) rfl rfl rfl hdF_iterator ⟨Nat.le_of_ble_eq_true rfl, Nat.le_of_ble_eq_true rfl⟩ ⟨Nat.le_of_ble_eq_true rfl, Nat.le_of_ble_eq_true rfl⟩ rfl (Nat.le_of_ble_eq_true rfl) dX8_meanLoud_6 (fun r9 ad9 L9 f9 hp9 => ?_)
  obtain ⟨qa1, he9, hr9⟩ := hp9
  cases he9
  subst hr9
  obtain ⟨a1, ha1⟩ : ∃ z9, z9 = va_up ad 9 qa1 := ⟨_, rfl⟩
  have va1 : qa1 = a1 9 := by rw [ha1]; exact (if_pos rfl).symm
  have ga1 : ∀ i, i ∈ (mL S) → a1 i = ad i := fun i hi => by rw [ha1]; exact va_up_ne _ _ (fun h => (f_lo (by decide) (by decide) hS) (h ▸ hi))
  have aga1 : AGm (mL S) ad a1 := by rw [ha1]; exact AGm_new AGm_rf (f_lo (by decide) (by decide) hS) (by omega)
  rw [← ha1]
  refine g_lvs (lv2 := [(1, .int 0), (0, .ref (a1 0))]) (st2 := [.ref (a1 9)]) (by rw [ga1 0 (m_lo (by decide))]) (by rw [va1]; rfl) ?_
  refine g_astore_n hX [(2, .ref (a1 9)), (1, .int 0), (0, .ref (a1 0))] rfl dX8_meanLoud_11 rfl (by decide) ?_
  have lp_12 : ∀ (n9 : Nat) (k : Nat) (q : Int32), S.2.2.1 - k < n9 → (k ≤ S.2.2.1) → (q = smM M k) → GG X D a1 ((mL S) ++ [9]) (pf dT mK mN (itM M 9 3 k) (up2 (mR S) 9 3 (some 3)) a1) [(2, .ref (a1 9)), (1, .int q), (0, .ref (a1 0))] (0 + 1) (0 + 4) 12 [] := by
    intro n9
    induction n9 with
    | zero => intro k q h9; exact absurd h9 (Nat.not_lt_zero _)
    | succ n9 ih9 =>
      intro k q h9 hk hq
      have ih_12 := ih9
      refine g_aload_n hX 0 rfl dX8_meanLoud_12 rfl ?_
      refine b_callI_F hX hM (b := 9) [] (List.mem_append_right _ (List.mem_singleton.mpr rfl)) (pf_obj rfl (by decide)) rfl (v_has 3 (S.2.2.1) 8000 9 k (LV_it (l2 := 3) (k := k) (LV_3 hS (M := M) hw3) rfl) (List.mem_append_right _ (List.mem_singleton.mpr rfl)) rfl up2_s (by omega) itM_0) gX8_meanLoud_Jx35411_hasNext_aae02_f108Jx35411 (by decide +kernel) rfl rfl rfl hdF_hasNext ⟨Nat.le_of_ble_eq_true rfl, Nat.le_of_ble_eq_true rfl⟩ ⟨Nat.le_of_ble_eq_true rfl, Nat.le_of_ble_eq_true rfl⟩ rfl (Nat.le_of_ble_eq_true rfl) dX8_meanLoud_13 (fun r9 ad9 L9 f9 hp9 => ?_)
      obtain ⟨he9, hr9⟩ := hp9
      cases he9
      subst hr9
      refine g_if_eq (tgt := 40) hX dX8_meanLoud_18 (by decide) (fun c_18 => ?_) (fun c_18 => ?_)
      · have c_18 := z01 c_18
        refine g_lv [1, 2] rfl ?_
        refine g_lvs (lv2 := [(1, .int q), (0, .ref (a1 0))]) (st2 := []) rfl rfl ?_
        refine g_L (L2 := mL S) (fun i hi => List.mem_append_left _ hi) mL_nd ?_
        refine g_f (g := pf dT mK mN M (mR S) a1) (fun i hi => (pf_I (itM_n (fun h => (f_lo (by decide) (by decide) hS) (h ▸ hi)))).trans (pf_R (up2_row (fun h => (f_lo (by decide) (by decide) hS) (h ▸ hi))))) ?_
        refine g_aload_n hX 1 rfl dX8_meanLoud_40 rfl ?_
        refine g_aload_n hX 1 rfl dX8_meanLoud_41 rfl ?_
        refine g_getRs (i := 0) hX 12 2 q_inX8 (m_lo (by decide)) rfl (by decide) rfl (by decide) rfl q_w1 rfl (j := 3) rfl dX8_meanLoud_42 ?_
        refine b_callI_F hX hM (b := 3) [] (m_lo (by decide)) (pf_obj rfl (by decide)) rfl (k_Jx4a65c_isEmpty_aae02 3 (m_lo (by decide)) rfl) gX8_meanLoud_Jx4a65c_isEmpty_aae02_f224Jx4a65c (by decide +kernel) rfl rfl rfl hdF_isEmpty ⟨Nat.le_of_ble_eq_true rfl, Nat.le_of_ble_eq_true rfl⟩ ⟨Nat.le_of_ble_eq_true rfl, Nat.le_of_ble_eq_true rfl⟩ rfl (Nat.le_of_ble_eq_true rfl) dX8_meanLoud_45 (fun r9 ad9 L9 f9 hp9 => ?_)
        obtain ⟨he9, hr9⟩ := hp9
        cases he9
        subst hr9
        refine g_eqi (y := if S.2.2.1 = 0 then 1 else 0) (nI_if0 (by have := hS.2.2.1; omega) hw3) ?_
        refine g_if_ne (tgt := 57) hX dX8_meanLoud_50 (by decide) (fun c_50 => ?_) (fun c_50 => ?_)
        · have c_50 := z11 c_50
          refine g_iconst hX (0) dX8_meanLoud_57 rfl ?_
          refine g_iconst hX (1) dX8_meanLoud_58 rfl ?_
          refine b_callI_V hX hM (b := 0) [.int 0, .int 1] (m_lo (by decide)) (pf_obj rfl (by decide)) rfl (k_X8_no (m_lo (by decide)) rfl 0 1) gX8_meanLoud_X8_no rfl rfl rfl hd_X8_no ⟨Nat.le_of_ble_eq_true rfl, Nat.le_of_ble_eq_true rfl⟩ ⟨Nat.le_of_ble_eq_true rfl, Nat.le_of_ble_eq_true rfl⟩ rfl (Nat.le_of_ble_eq_true rfl) dX8_meanLoud_59 (fun r9 ad9 L9 f9 hp9 => ?_)
          obtain ⟨he9, hr9⟩ := hp9
          cases he9
          subst hr9
          rw [show (if (0 : Int32) = 0 then (1 : Int32) else 0) = 1 from by decide]
          refine g_eqi (y := 1) (by decide) ?_
          refine g_if_eq (tgt := 69) hX dX8_meanLoud_62 (by decide) (fun c_62 => ?_) (fun c_62 => ?_)
          · first | exact absurd c_62 (by decide) | exact absurd (by decide) c_62
          · refine g_dconst0 hX dX8_meanLoud_65 ?_
            refine g_goto (tgt := 82) hX dX8_meanLoud_66 (by decide) ?_
            refine b_dret hX hE dX8_meanLoud_82 (by omega) (by omega) ?_
            exact ⟨⟨_, aga1, congrArg (fun z => (a1, mL S, mf dT a1 z S)) (by simp [c_50])⟩, Or.inl c_50⟩
        · have c_50 := z10 c_50
          refine g_iconst hX (1) dX8_meanLoud_53 rfl ?_
          refine g_goto (tgt := 58) hX dX8_meanLoud_54 (by decide) ?_
          refine g_iconst hX (1) dX8_meanLoud_58 rfl ?_
          refine b_callI_V hX hM (b := 0) [.int 1, .int 1] (m_lo (by decide)) (pf_obj rfl (by decide)) rfl (k_X8_no (m_lo (by decide)) rfl 1 1) gX8_meanLoud_X8_no rfl rfl rfl hd_X8_no ⟨Nat.le_of_ble_eq_true rfl, Nat.le_of_ble_eq_true rfl⟩ ⟨Nat.le_of_ble_eq_true rfl, Nat.le_of_ble_eq_true rfl⟩ rfl (Nat.le_of_ble_eq_true rfl) dX8_meanLoud_59 (fun r9 ad9 L9 f9 hp9 => ?_)
          obtain ⟨he9, hr9⟩ := hp9
          cases he9
          subst hr9
          rw [show (if (1 : Int32) = 0 then (1 : Int32) else 0) = 0 from by decide]
          refine g_eqi (y := 0) (by decide) ?_
          refine g_if_eq (tgt := 69) hX dX8_meanLoud_62 (by decide) (fun c_62 => ?_) (fun c_62 => ?_)
          · refine g_iload_n hX 0 rfl dX8_meanLoud_69 rfl ?_
            refine g_i2d hX dX8_meanLoud_70 ?_
            refine g_aload_n hX 1 rfl dX8_meanLoud_71 rfl ?_
            refine g_getRs (i := 0) hX 12 2 q_inX8 (m_lo (by decide)) rfl (by decide) rfl (by decide) rfl q_w1 rfl (j := 3) rfl dX8_meanLoud_72 ?_
            refine b_callI_F hX hM (b := 3) [] (m_lo (by decide)) (pf_obj rfl (by decide)) rfl (k_Jx4a65c_size_8abf5 3 (m_lo (by decide)) rfl) gX8_meanLoud_Jx4a65c_size_8abf5_f54Jx4a65c (by decide +kernel) rfl rfl rfl hdF_size ⟨Nat.le_of_ble_eq_true rfl, Nat.le_of_ble_eq_true rfl⟩ ⟨Nat.le_of_ble_eq_true rfl, Nat.le_of_ble_eq_true rfl⟩ rfl (Nat.le_of_ble_eq_true rfl) dX8_meanLoud_75 (fun r9 ad9 L9 f9 hp9 => ?_)
            obtain ⟨he9, hr9⟩ := hp9
            cases he9
            subst hr9
            refine g_eqi (y := (nI S.2.2.1)) ((up2_n (Or.inl (by decide))).trans hw3) ?_
            refine g_i2d hX dX8_meanLoud_80 ?_
            refine g_ddiv hX dX8_meanLoud_81 (nn_ddiv (nI_ne0 (Nat.pos_of_ne_zero c_50) (by omega))) ?_
            refine b_dret hX hE dX8_meanLoud_82 (by omega) (by omega) ?_
            exact ⟨⟨_, aga1, congrArg (fun z => (a1, mL S, mf dT a1 z S)) (by simp [c_50])⟩, Or.inr (by rw [hq, c_18])⟩
          · first | exact absurd c_62 (by decide) | exact absurd (by decide) c_62
      · have c_18 := z00 c_18
        refine g_aload_n hX 0 rfl dX8_meanLoud_21 rfl ?_
        refine b_callQ_F hX hM (b := 9) [] (List.mem_append_right _ (List.mem_singleton.mpr rfl)) (pf_obj rfl (by decide)) rfl (v_next 3 (S.2.2.1) 8000 9 k (LV_it (l2 := 3) (k := k) (LV_3 hS (M := M) hw3) rfl) (List.mem_append_right _ (List.mem_singleton.mpr rfl)) rfl up2_s (by omega)) gX8_meanLoud_Jx35411_next_0502b_f114Jx35411 (by decide +kernel) rfl rfl rfl hdF_next ⟨Nat.le_of_ble_eq_true rfl, Nat.le_of_ble_eq_true rfl⟩ ⟨Nat.le_of_ble_eq_true rfl, Nat.le_of_ble_eq_true rfl⟩ rfl (Nat.le_of_ble_eq_true rfl) dX8_meanLoud_22 (fun r9 ad9 L9 f9 hp9 => ?_)
        obtain ⟨he9, hr9⟩ := hp9
        cases he9
        subst hr9
        refine b_cast20 (i := (8000 + k)) hX (List.mem_append_left _ (m_s hS (by omega))) (mK_h (by omega)) q_w2 dX8_meanLoud_27 ?_
        refine g_astore_n hX [(3, .ref (a1 (8000 + k))), (2, .ref (a1 9)), (1, .int q), (0, .ref (a1 0))] rfl dX8_meanLoud_30 rfl (by decide) ?_
        refine g_iload_n hX 2 rfl dX8_meanLoud_31 rfl ?_
        refine g_aload_n hX 0 rfl dX8_meanLoud_32 rfl ?_
        refine g_iconst hX (4) dX8_meanLoud_33 rfl ?_
        refine h_iald (i := (8000 + k)) hX 4 rfl (by rw [mN_s (by have := hS.2.2.1; omega)]; omega) (by rw [mN_s (by have := hS.2.2.1; omega)]; decide) (List.mem_append_left _ (m_s hS (by omega))) (mK_h (by omega)) dX8_meanLoud_34 ?_
        refine g_eqi (y := (M (8000 + k) 4)) (congrFun (itM_n (by omega)) 4) ?_
        refine g_iadd hX dX8_meanLoud_35 ?_
        refine g_istore_n hX [(1, .int (q + (M (8000 + k) 4))), (3, .ref (a1 (8000 + k))), (2, .ref (a1 9)), (0, .ref (a1 0))] rfl dX8_meanLoud_36 rfl (by decide) ?_
        refine g_goto (tgt := 12) hX dX8_meanLoud_37 (by decide) ?_
        refine g_lv [2, 0, 3] rfl ?_
        exact ih_12 (k + 1) (q + (M (8000 + k) 4)) (by omega) (by omega) (by rw [hq, smM])
  refine g_lv [0, 1, 2] rfl ?_
  exact lp_12 _ 0 0 (Nat.lt_succ_self _) (Nat.zero_le _) rfl
abbrev rm_X8_checksum : Room := { frames := 3, cells := 2, slots := 8, locals := 64 }
theorem hd_X8_checksum : yX8_checksum.cls = RX8 ∧ yX8_checksum.cls ≠ "java/lang/invoke/MethodHandle" ∧ yX8_checksum.cls ≠ "java/lang/invoke/VarHandle" ∧ (parseMethodDescriptor yX8_checksum.desc).map (fun d => d.parameters.length) = some 0 := by decide +kernel
set_option maxRecDepth 100000 in
set_option maxHeartbeats 4000000 in
theorem k_X8_checksum {D : va_G} {dT : Nat → ClassId} {Z : ZT} {ad : Nat → Nat} (M : Nat → Nat → Int32) (S : SZ) (hS : WS S) (hw1 : M 1 2 = nI S.1) (hw2 : M 2 2 = nI S.2.1) (hw3 : M 3 2 = nI S.2.2.1) : ∀ l8, BL l8 yX8_checksum wsX8_checksum rm_X8_checksum D (tyl dT) Z ad (mL S) (pf dT mK mN M (mR S) ad) [.ref (ad 0)] 2 8 (fun r u => (∃ ad2, AGm (mL S) ad ad2 ∧ u = (ad2, mL S, mf dT ad2 M S)) ∧ ckS M (ckA M S.1) S.2.2.1 = r) := by
  intro l9
  refine bl_of (own := RX8) (cc := cX8_checksum) (maxL := 7) [(0, .ref (ad 0))] (by decide) rfl rfl rfl (Nat.le_of_ble_eq_true rfl) ?_
  intro X hX hE hN hM
  have q_w1 : Cond.constantLong RX8 232 (7) ∈ wsX8_checksum := List.mem_of_getElem? (i := 1) rfl
  have q_w2 : Cond.fieldLink RX8 10 "PerforatumModel" "rolls" "Ljava/util/List;" ∈ wsX8_checksum := List.mem_of_getElem? (i := 2) rfl
  have q_inX8 : ∀ w ∈ wsX80, w ∈ wsX8_checksum := by decide +kernel
  have q_w5 : Cond.fieldLink RX8 19 "PerforatumModel" "sounds" "Ljava/util/List;" ∈ wsX8_checksum := List.mem_of_getElem? (i := 5) rfl
  have q_w6 : Cond.classLink RX8 117 "[I" ∈ wsX8_checksum := List.mem_of_getElem? (i := 6) rfl
  have q_w4 : Cond.constantLong RX8 234 (31) ∈ wsX8_checksum := List.mem_of_getElem? (i := 4) rfl
  have q_w3 : Cond.classLink RX8 68 "[[Z" ∈ wsX8_checksum := List.mem_of_getElem? (i := 3) rfl
  have hS1 := hS.1
  have hS2 := hS.2.1
  have hS3 := hS.2.2.1
  refine g_ldc2 hX (7) q_w1 dX8_checksum_0 ?_
  refine g_lstore_n hX [(1, .long (7)), (0, .ref (ad 0))] rfl dX8_checksum_3 rfl (by decide) ?_
  refine g_aload_n hX 1 rfl dX8_checksum_4 rfl ?_
  refine g_getRs (i := 0) hX 12 0 q_inX8 (m_lo (by decide)) rfl (by decide) rfl (by decide) rfl q_w2 rfl (j := 1) rfl dX8_checksum_5 ?_
  refine b_callQ_F hX hM (b := 1) [] (m_lo (by decide)) (pf_obj rfl (by decide)) rfl (v_iter 1 (S.1) 5000 9 (LV_1 hS (M := M) hw1) rfl (f_lo (by decide) (by decide) hS) (mR_no hS (f_lo (by decide) (by decide) hS) (by omega)) (mR_0 (by omega))) gX8_checksum_Jx4a65c_iterator_32c93_f104Jx4a65c (by decide +kernel) rfl rfl rfl hdF_iterator ⟨Nat.le_of_ble_eq_true rfl, Nat.le_of_ble_eq_true rfl⟩ ⟨Nat.le_of_ble_eq_true rfl, Nat.le_of_ble_eq_true rfl⟩ rfl (Nat.le_of_ble_eq_true rfl) dX8_checksum_8 (fun r9 ad9 L9 f9 hp9 => ?_)
  obtain ⟨qa1, he9, hr9⟩ := hp9
  cases he9
  subst hr9
  obtain ⟨a1, ha1⟩ : ∃ z9, z9 = va_up ad 9 qa1 := ⟨_, rfl⟩
  have va1 : qa1 = a1 9 := by rw [ha1]; exact (if_pos rfl).symm
  have ga1 : ∀ i, i ∈ (mL S) → a1 i = ad i := fun i hi => by rw [ha1]; exact va_up_ne _ _ (fun h => (f_lo (by decide) (by decide) hS) (h ▸ hi))
  have aga1 : AGm (mL S) ad a1 := by rw [ha1]; exact AGm_new AGm_rf (f_lo (by decide) (by decide) hS) (by omega)
  rw [← ha1]
  refine g_lvs (lv2 := [(1, .long (7)), (0, .ref (a1 0))]) (st2 := [.ref (a1 9)]) (by rw [ga1 0 (m_lo (by decide))]) (by rw [va1]; rfl) ?_
  refine g_astore_n hX [(3, .ref (a1 9)), (1, .long (7)), (0, .ref (a1 0))] rfl dX8_checksum_13 rfl (by decide) ?_
  have lp_14 : ∀ (n9 : Nat) (j : Nat) (s : Int64), S.1 - j < n9 → (j ≤ S.1) → (s = ckA M j) → GG X D a1 ((mL S) ++ [9]) (pf dT mK mN (itM M 9 1 j) (up2 (mR S) 9 3 (some 1)) a1) [(3, .ref (a1 9)), (1, .long s), (0, .ref (a1 0))] (0 + 1) (0 + 4) 14 [] := by
    intro n9
    induction n9 with
    | zero => intro j s h9; exact absurd h9 (Nat.not_lt_zero _)
    | succ n9 ih9 =>
      intro j s h9 hj hs
      have ih_14 := ih9
      refine g_aload_n hX 0 rfl dX8_checksum_14 rfl ?_
      refine b_callI_F hX hM (b := 9) [] (List.mem_append_right _ (List.mem_singleton.mpr rfl)) (pf_obj rfl (by decide)) rfl (v_has 1 (S.1) 5000 9 j (LV_it (l2 := 1) (k := j) (LV_1 hS (M := M) hw1) rfl) (List.mem_append_right _ (List.mem_singleton.mpr rfl)) rfl up2_s (by omega) itM_0) gX8_checksum_Jx35411_hasNext_aae02_f108Jx35411 (by decide +kernel) rfl rfl rfl hdF_hasNext ⟨Nat.le_of_ble_eq_true rfl, Nat.le_of_ble_eq_true rfl⟩ ⟨Nat.le_of_ble_eq_true rfl, Nat.le_of_ble_eq_true rfl⟩ rfl (Nat.le_of_ble_eq_true rfl) dX8_checksum_15 (fun r9 ad9 L9 f9 hp9 => ?_)
      obtain ⟨he9, hr9⟩ := hp9
      cases he9
      subst hr9
      refine g_if_eq (tgt := 102) hX dX8_checksum_20 (by decide) (fun c_20 => ?_) (fun c_20 => ?_)
      · have c_20 := z01 c_20
        refine g_lv [1, 2] rfl ?_
        refine g_lvs (lv2 := [(1, .long s), (0, .ref (a1 0))]) (st2 := []) rfl rfl ?_
        refine g_L (L2 := mL S) (fun i hi => List.mem_append_left _ hi) mL_nd ?_
        refine g_f (g := pf dT mK mN M (mR S) a1) (fun i hi => (pf_I (itM_n (fun h => (f_lo (by decide) (by decide) hS) (h ▸ hi)))).trans (pf_R (up2_row (fun h => (f_lo (by decide) (by decide) hS) (h ▸ hi))))) ?_
        refine g_aload_n hX 1 rfl dX8_checksum_102 rfl ?_
        refine g_getRs (i := 0) hX 12 2 q_inX8 (m_lo (by decide)) rfl (by decide) rfl (by decide) rfl q_w5 rfl (j := 3) rfl dX8_checksum_103 ?_
        refine b_callQ_F hX hM (b := 3) [] (m_lo (by decide)) (pf_obj rfl (by decide)) rfl (v_iter 3 (S.2.2.1) 8000 9 (LV_3 hS (M := M) hw3) rfl (f_lo (by decide) (by decide) hS) (mR_no hS (f_lo (by decide) (by decide) hS) (by omega)) (mR_0 (by omega))) gX8_checksum_Jx4a65c_iterator_32c93_f104Jx4a65c (by decide +kernel) rfl rfl rfl hdF_iterator ⟨Nat.le_of_ble_eq_true rfl, Nat.le_of_ble_eq_true rfl⟩ ⟨Nat.le_of_ble_eq_true rfl, Nat.le_of_ble_eq_true rfl⟩ rfl (Nat.le_of_ble_eq_true rfl) dX8_checksum_106 (fun r9 ad9 L9 f9 hp9 => ?_)
        obtain ⟨qa2, he9, hr9⟩ := hp9
        cases he9
        subst hr9
        obtain ⟨a2, ha2⟩ : ∃ z9, z9 = va_up a1 9 qa2 := ⟨_, rfl⟩
        have va2 : qa2 = a2 9 := by rw [ha2]; exact (if_pos rfl).symm
        have ga2 : ∀ i, i ∈ (mL S) → a2 i = a1 i := fun i hi => by rw [ha2]; exact va_up_ne _ _ (fun h => (f_lo (by decide) (by decide) hS) (h ▸ hi))
        have aga2 : AGm (mL S) ad a2 := by rw [ha2]; exact AGm_new aga1 (f_lo (by decide) (by decide) hS) (by omega)
        rw [← ha2]
        refine g_lvs (lv2 := [(1, .long s), (0, .ref (a2 0))]) (st2 := [.ref (a2 9)]) (by rw [ga2 0 (m_lo (by decide))]) (by rw [va2]; rfl) ?_
        refine g_astore_n hX [(3, .ref (a2 9)), (1, .long s), (0, .ref (a2 0))] rfl dX8_checksum_111 rfl (by decide) ?_
        have lp_112 : ∀ (n9 : Nat) (k : Nat) (s4 : Int64), S.2.2.1 - k < n9 → (k ≤ S.2.2.1) → (s4 = ckS M (ckA M S.1) k) → GG X D a2 ((mL S) ++ [9]) (pf dT mK mN (itM M 9 3 k) (up2 (mR S) 9 3 (some 3)) a2) [(3, .ref (a2 9)), (1, .long s4), (0, .ref (a2 0))] (0 + 1 + 1) (0 + 4 + 4) 112 [] := by
          intro n9
          induction n9 with
          | zero => intro k s4 h9; exact absurd h9 (Nat.not_lt_zero _)
          | succ n9 ih9 =>
            intro k s4 h9 hk hs4
            have ih_112 := ih9
            refine g_aload_n hX 0 rfl dX8_checksum_112 rfl ?_
            refine b_callI_F hX hM (b := 9) [] (List.mem_append_right _ (List.mem_singleton.mpr rfl)) (pf_obj rfl (by decide)) rfl (v_has 3 (S.2.2.1) 8000 9 k (LV_it (l2 := 3) (k := k) (LV_3 hS (M := M) hw3) rfl) (List.mem_append_right _ (List.mem_singleton.mpr rfl)) rfl up2_s (by omega) itM_0) gX8_checksum_Jx35411_hasNext_aae02_f108Jx35411 (by decide +kernel) rfl rfl rfl hdF_hasNext ⟨Nat.le_of_ble_eq_true rfl, Nat.le_of_ble_eq_true rfl⟩ ⟨Nat.le_of_ble_eq_true rfl, Nat.le_of_ble_eq_true rfl⟩ rfl (Nat.le_of_ble_eq_true rfl) dX8_checksum_113 (fun r9 ad9 L9 f9 hp9 => ?_)
            obtain ⟨he9, hr9⟩ := hp9
            cases he9
            subst hr9
            refine g_if_eq (tgt := 171) hX dX8_checksum_118 (by decide) (fun c_118 => ?_) (fun c_118 => ?_)
            · have c_118 := z01 c_118
              refine g_lv [1, 2] rfl ?_
              refine g_lvs (lv2 := [(1, .long s4), (0, .ref (a2 0))]) (st2 := []) rfl rfl ?_
              refine g_L (L2 := mL S) (fun i hi => List.mem_append_left _ hi) mL_nd ?_
              refine g_f (g := pf dT mK mN M (mR S) a2) (fun i hi => (pf_I (itM_n (fun h => (f_lo (by decide) (by decide) hS) (h ▸ hi)))).trans (pf_R (up2_row (fun h => (f_lo (by decide) (by decide) hS) (h ▸ hi))))) ?_
              refine g_lload_n hX 0 rfl dX8_checksum_171 rfl ?_
              refine b_lret hX hE dX8_checksum_172 (by omega) (by omega) ?_
              exact ⟨⟨_, aga2, rfl⟩, by rw [hs4, c_118]⟩
            · have c_118 := z00 c_118
              refine g_aload_n hX 0 rfl dX8_checksum_121 rfl ?_
              refine b_callQ_F hX hM (b := 9) [] (List.mem_append_right _ (List.mem_singleton.mpr rfl)) (pf_obj rfl (by decide)) rfl (v_next 3 (S.2.2.1) 8000 9 k (LV_it (l2 := 3) (k := k) (LV_3 hS (M := M) hw3) rfl) (List.mem_append_right _ (List.mem_singleton.mpr rfl)) rfl up2_s (by omega)) gX8_checksum_Jx35411_next_0502b_f114Jx35411 (by decide +kernel) rfl rfl rfl hdF_next ⟨Nat.le_of_ble_eq_true rfl, Nat.le_of_ble_eq_true rfl⟩ ⟨Nat.le_of_ble_eq_true rfl, Nat.le_of_ble_eq_true rfl⟩ rfl (Nat.le_of_ble_eq_true rfl) dX8_checksum_122 (fun r9 ad9 L9 f9 hp9 => ?_)
              obtain ⟨he9, hr9⟩ := hp9
              cases he9
              subst hr9
              refine b_cast20 (i := (8000 + k)) hX (List.mem_append_left _ (m_s hS (by omega))) (mK_h (by omega)) q_w6 dX8_checksum_127 ?_
              refine g_astore hX [(4, .ref (a2 (8000 + k))), (3, .ref (a2 9)), (1, .long s4), (0, .ref (a2 0))] rfl dX8_checksum_130 (by decide) ?_
              refine g_ldc2 hX (31) q_w4 dX8_checksum_132 ?_
              refine g_lload_n hX 2 rfl dX8_checksum_135 rfl ?_
              refine g_lmul hX dX8_checksum_136 ?_
              refine g_aload hX 0 rfl dX8_checksum_137 ?_
              refine g_iconst hX (0) dX8_checksum_139 rfl ?_
              refine h_iald (i := (8000 + k)) hX 0 rfl (by rw [mN_s (by have := hS.2.2.1; omega)]; omega) (by rw [mN_s (by have := hS.2.2.1; omega)]; decide) (List.mem_append_left _ (m_s hS (by omega))) (mK_h (by omega)) dX8_checksum_140 ?_
              refine g_eqi (y := (M (8000 + k) 0)) (congrFun (itM_n (by omega)) 0) ?_
              refine g_i2l hX dX8_checksum_141 ?_
              refine g_ladd hX dX8_checksum_142 ?_
              refine g_lstore_n hX [(1, .long (((31) * s4) + ((M (8000 + k) 0).toInt64))), (4, .ref (a2 (8000 + k))), (3, .ref (a2 9)), (0, .ref (a2 0))] rfl dX8_checksum_143 rfl (by decide) ?_
              refine g_ldc2 hX (31) q_w4 dX8_checksum_144 ?_
              refine g_lload_n hX 0 rfl dX8_checksum_147 rfl ?_
              refine g_lmul hX dX8_checksum_148 ?_
              refine g_aload hX 1 rfl dX8_checksum_149 ?_
              refine g_iconst hX (2) dX8_checksum_151 rfl ?_
              refine h_iald (i := (8000 + k)) hX 2 rfl (by rw [mN_s (by have := hS.2.2.1; omega)]; omega) (by rw [mN_s (by have := hS.2.2.1; omega)]; decide) (List.mem_append_left _ (m_s hS (by omega))) (mK_h (by omega)) dX8_checksum_152 ?_
              refine g_eqi (y := (M (8000 + k) 2)) (congrFun (itM_n (by omega)) 2) ?_
              refine g_i2l hX dX8_checksum_153 ?_
              refine g_ladd hX dX8_checksum_154 ?_
              refine g_lstore_n hX [(1, .long (((31) * (((31) * s4) + ((M (8000 + k) 0).toInt64))) + ((M (8000 + k) 2).toInt64))), (4, .ref (a2 (8000 + k))), (3, .ref (a2 9)), (0, .ref (a2 0))] rfl dX8_checksum_155 rfl (by decide) ?_
              refine g_ldc2 hX (31) q_w4 dX8_checksum_156 ?_
              refine g_lload_n hX 0 rfl dX8_checksum_159 rfl ?_
              refine g_lmul hX dX8_checksum_160 ?_
              refine g_aload hX 1 rfl dX8_checksum_161 ?_
              refine g_iconst hX (4) dX8_checksum_163 rfl ?_
              refine h_iald (i := (8000 + k)) hX 4 rfl (by rw [mN_s (by have := hS.2.2.1; omega)]; omega) (by rw [mN_s (by have := hS.2.2.1; omega)]; decide) (List.mem_append_left _ (m_s hS (by omega))) (mK_h (by omega)) dX8_checksum_164 ?_
              refine g_eqi (y := (M (8000 + k) 4)) (congrFun (itM_n (by omega)) 4) ?_
              refine g_i2l hX dX8_checksum_165 ?_
              refine g_ladd hX dX8_checksum_166 ?_
              refine g_lstore_n hX [(1, .long (((31) * (((31) * (((31) * s4) + ((M (8000 + k) 0).toInt64))) + ((M (8000 + k) 2).toInt64))) + ((M (8000 + k) 4).toInt64))), (4, .ref (a2 (8000 + k))), (3, .ref (a2 9)), (0, .ref (a2 0))] rfl dX8_checksum_167 rfl (by decide) ?_
              refine g_goto (tgt := 112) hX dX8_checksum_168 (by decide) ?_
              refine g_lv [2, 0, 3] rfl ?_
              exact ih_112 (k + 1) (((31) * (((31) * (((31) * s4) + ((M (8000 + k) 0).toInt64))) + ((M (8000 + k) 2).toInt64))) + ((M (8000 + k) 4).toInt64)) (by omega) (by omega) (by rw [hs4, ckS])
        refine g_lv [0, 1, 2] rfl ?_
        exact lp_112 _ 0 s (Nat.lt_succ_self _) (Nat.zero_le _) (by rw [hs, c_20]; rfl)
      · have c_20 := z00 c_20
        refine g_aload_n hX 0 rfl dX8_checksum_23 rfl ?_
        refine b_callQ_F hX hM (b := 9) [] (List.mem_append_right _ (List.mem_singleton.mpr rfl)) (pf_obj rfl (by decide)) rfl (v_next 1 (S.1) 5000 9 j (LV_it (l2 := 1) (k := j) (LV_1 hS (M := M) hw1) rfl) (List.mem_append_right _ (List.mem_singleton.mpr rfl)) rfl up2_s (by omega)) gX8_checksum_Jx35411_next_0502b_f114Jx35411 (by decide +kernel) rfl rfl rfl hdF_next ⟨Nat.le_of_ble_eq_true rfl, Nat.le_of_ble_eq_true rfl⟩ ⟨Nat.le_of_ble_eq_true rfl, Nat.le_of_ble_eq_true rfl⟩ rfl (Nat.le_of_ble_eq_true rfl) dX8_checksum_24 (fun r9 ad9 L9 f9 hp9 => ?_)
        obtain ⟨he9, hr9⟩ := hp9
        cases he9
        subst hr9
        refine b_cast26 (i := (5000 + j)) hX (List.mem_append_left _ (m_o hS (by omega))) (mK_o (by have := hS.1; omega)) q_w3 dX8_checksum_29 ?_
        refine g_astore hX [(4, .ref (a1 (5000 + j))), (3, .ref (a1 9)), (1, .long s), (0, .ref (a1 0))] rfl dX8_checksum_32 (by decide) ?_
        refine g_iconst hX (0) dX8_checksum_34 rfl ?_
        refine g_istore hX [(5, .int 0), (4, .ref (a1 (5000 + j))), (3, .ref (a1 9)), (1, .long s), (0, .ref (a1 0))] rfl dX8_checksum_35 (by decide) ?_
        have lp_37 : ∀ (n9 : Nat) (r : Nat) (s2 : Int64), 200 - r < n9 → (r ≤ 200) → (s2 = ckJ M j (ckA M j) r) → GG X D a1 ((mL S) ++ [9]) (pf dT mK mN (itM M 9 1 (j + 1)) (up2 (mR S) 9 3 (some 1)) a1) [(5, .int (nI r)), (4, .ref (a1 (5000 + j))), (3, .ref (a1 9)), (1, .long s2), (0, .ref (a1 0))] (0 + 1) (0 + 4) 37 [] := by
          intro n9
          induction n9 with
          | zero => intro r s2 h9; exact absurd h9 (Nat.not_lt_zero _)
          | succ n9 ih9 =>
            intro r s2 h9 hr hs2
            have ih_37 := ih9
            refine g_iload hX 0 rfl dX8_checksum_37 ?_
            refine g_sipush hX (200) dX8_checksum_39 rfl ?_
            refine g_icmp_ge (tgt := 99) hX dX8_checksum_42 (by decide) (fun c_42 => ?_) (fun c_42 => ?_)
            · have c_42 : 200 ≤ r := (nI_leI (a := 200) (b := r) (by omega) (by omega)).mp c_42
              refine g_goto (tgt := 14) hX dX8_checksum_99 (by decide) ?_
              refine g_lv [2, 3, 4] rfl ?_
              exact ih_14 (j + 1) s2 (by omega) (by omega) (by rw [hs2, show r = 200 by omega]; rfl)
            · have c_42 : ¬ 200 ≤ r := fun h9 => c_42 ((nI_leI (a := 200) (b := r) (by omega) (by omega)).mpr h9)
              refine g_iconst hX (0) dX8_checksum_45 rfl ?_
              refine g_istore hX [(6, .int 0), (5, .int (nI r)), (4, .ref (a1 (5000 + j))), (3, .ref (a1 9)), (1, .long s2), (0, .ref (a1 0))] rfl dX8_checksum_46 (by decide) ?_
              have lp_48 : ∀ (n9 : Nat) (t : Nat) (s3 : Int64), 16 - t < n9 → (t ≤ 16) → (s3 = ckR M j r (ckJ M j (ckA M j) r) t) → GG X D a1 ((mL S) ++ [9]) (pf dT mK mN (itM M 9 1 (j + 1)) (up2 (mR S) 9 3 (some 1)) a1) [(6, .int (nI t)), (5, .int (nI r)), (4, .ref (a1 (5000 + j))), (3, .ref (a1 9)), (1, .long s3), (0, .ref (a1 0))] (0 + 1) (0 + 4) 48 [] := by
                intro n9
                induction n9 with
                | zero => intro t s3 h9; exact absurd h9 (Nat.not_lt_zero _)
                | succ n9 ih9 =>
                  intro t s3 h9 ht hs3
                  have ih_48 := ih9
                  refine g_iload hX 0 rfl dX8_checksum_48 ?_
                  refine g_bipush hX (16) dX8_checksum_50 rfl ?_
                  refine g_icmp_ge (tgt := 93) hX dX8_checksum_52 (by decide) (fun c_52 => ?_) (fun c_52 => ?_)
                  · have c_52 : 16 ≤ t := (nI_leI (a := 16) (b := t) (by omega) (by omega)).mp c_52
                    refine g_iinc hX (nI (r + 1)) [(5, .int (nI (r + 1))), (6, .int (nI t)), (4, .ref (a1 (5000 + j))), (3, .ref (a1 9)), (1, .long s3), (0, .ref (a1 0))] (k := 1) rfl (g_inc r) rfl dX8_checksum_93 (by decide) ?_
                    refine g_goto (tgt := 37) hX dX8_checksum_96 (by decide) ?_
                    refine g_lv [0, 2, 3, 4, 5] rfl ?_
                    exact ih_37 (r + 1) s3 (by omega) (by omega) (by rw [hs3, show t = 16 by omega]; rfl)
                  · have c_52 : ¬ 16 ≤ t := fun h9 => c_52 ((nI_leI (a := 16) (b := t) (by omega) (by omega)).mpr h9)
                    refine g_aload hX 2 rfl dX8_checksum_55 ?_
                    refine g_iload hX 1 rfl dX8_checksum_57 ?_
                    refine h_aald26 (i := (5000 + j)) hX r rfl (by rw [mN_o (by have := hS.1; omega)]; omega) (by rw [mN_o (by have := hS.1; omega)]; decide) (j := (6000 + 200 * j + r)) ((up2_n (Or.inl (by omega))).trans (mR_o (by have := hS.1; omega) (by omega))) (List.mem_append_left _ (m_o hS (by omega))) (mK_o (by have := hS.1; omega)) dX8_checksum_59 ?_
                    refine g_iload hX 0 rfl dX8_checksum_60 ?_
                    refine h_zald (i := (6000 + 200 * j + r)) hX t rfl (by rw [mN_r (by have := hS.1; omega) (by omega)]; omega) (by rw [mN_r (by have := hS.1; omega) (by omega)]; decide) (List.mem_append_left _ (m_r hS (by omega) (by omega))) (mK_r (by have := hS.1; omega) (by omega)) dX8_checksum_62 ?_
                    refine g_eqi (y := (M (6000 + 200 * j + r) t)) (congrFun (itM_n (by omega)) t) ?_
                    refine g_if_eq (tgt := 85) hX dX8_checksum_63 (by decide) (fun c_63 => ?_) (fun c_63 => ?_)
                    · refine g_lload_n hX 4 rfl dX8_checksum_85 rfl ?_
                      refine g_lstore_n hX [(1, .long s3), (6, .int (nI t)), (5, .int (nI r)), (4, .ref (a1 (5000 + j))), (3, .ref (a1 9)), (0, .ref (a1 0))] rfl dX8_checksum_86 rfl (by decide) ?_
                      refine g_iinc hX (nI (t + 1)) [(6, .int (nI (t + 1))), (1, .long s3), (5, .int (nI r)), (4, .ref (a1 (5000 + j))), (3, .ref (a1 9)), (0, .ref (a1 0))] (k := 1) rfl (g_inc t) rfl dX8_checksum_87 (by decide) ?_
                      refine g_goto (tgt := 48) hX dX8_checksum_90 (by decide) ?_
                      refine g_lv [0, 2, 3, 4, 1, 5] rfl ?_
                      exact ih_48 (t + 1) s3 (by omega) (by omega) (by rw [ckR, if_pos c_63]; exact hs3)
                    · refine g_ldc2 hX (31) q_w4 dX8_checksum_66 ?_
                      refine g_lload_n hX 4 rfl dX8_checksum_69 rfl ?_
                      refine g_lmul hX dX8_checksum_70 ?_
                      refine g_bipush hX (16) dX8_checksum_71 rfl ?_
                      refine g_iload hX 1 rfl dX8_checksum_73 ?_
                      refine g_imul hX dX8_checksum_75 ?_
                      refine g_i2l hX dX8_checksum_76 ?_
                      refine g_ladd hX dX8_checksum_77 ?_
                      refine g_iload hX 0 rfl dX8_checksum_78 ?_
                      refine g_i2l hX dX8_checksum_80 ?_
                      refine g_ladd hX dX8_checksum_81 ?_
                      refine g_goto (tgt := 86) hX dX8_checksum_82 (by decide) ?_
                      refine g_lstore_n hX [(1, .long ((((31) * s3) + ((16 * (nI r)).toInt64)) + ((nI t).toInt64))), (6, .int (nI t)), (5, .int (nI r)), (4, .ref (a1 (5000 + j))), (3, .ref (a1 9)), (0, .ref (a1 0))] rfl dX8_checksum_86 rfl (by decide) ?_
                      refine g_iinc hX (nI (t + 1)) [(6, .int (nI (t + 1))), (1, .long ((((31) * s3) + ((16 * (nI r)).toInt64)) + ((nI t).toInt64))), (5, .int (nI r)), (4, .ref (a1 (5000 + j))), (3, .ref (a1 9)), (0, .ref (a1 0))] (k := 1) rfl (g_inc t) rfl dX8_checksum_87 (by decide) ?_
                      refine g_goto (tgt := 48) hX dX8_checksum_90 (by decide) ?_
                      refine g_lv [0, 2, 3, 4, 1, 5] rfl ?_
                      exact ih_48 (t + 1) ((((31) * s3) + ((16 * (nI r)).toInt64)) + ((nI t).toInt64)) (by omega) (by omega) (by rw [ckR, if_neg c_63, hs3])
              refine g_lv [0, 1, 2, 3, 4, 5] rfl ?_
              exact lp_48 _ 0 s2 (Nat.lt_succ_self _) (Nat.zero_le _) (by rw [hs2]; rfl)
        refine g_lv [0, 1, 2, 3, 4] rfl ?_
        exact lp_37 _ 0 s (Nat.lt_succ_self _) (Nat.zero_le _) (by rw [hs]; rfl)
  refine g_lv [0, 1, 2] rfl ?_
  exact lp_14 _ 0 7 (Nat.lt_succ_self _) (Nat.zero_le _) rfl
abbrev rm_X8_note : Room := { frames := 7, cells := 3, slots := 56, locals := 190 }
theorem hd_X8_note : yX8_note.cls = RX8 ∧ yX8_note.cls ≠ "java/lang/invoke/MethodHandle" ∧ yX8_note.cls ≠ "java/lang/invoke/VarHandle" ∧ (parseMethodDescriptor yX8_note.desc).map (fun d => d.parameters.length) = some 3 := by decide +kernel
set_option maxRecDepth 100000 in
set_option maxHeartbeats 4000000 in
theorem k_X8_note {D : va_G} {dT : Nat → ClassId} {Z : ZT} {ad : Nat → Nat} (M : Nat → Nat → Int32) (S : SZ) (hS : WS S) (hw1 : M 1 2 = nI S.1) (hw2 : M 2 2 = nI S.2.1) (hw3 : M 3 2 = nI S.2.2.1) (hz : ad 99999 = Z.1) (f l p : Int32) : ∀ l8, BI l8 yX8_note wsX8_note rm_X8_note D (tyl dT) Z ad (mL S) (pf dT mK mN M (mR S) ad) [.ref (ad 0), .int f, .int l, .int p] 3 56 (fun r u => ∃ ad2, AGm (mL S) ad ad2 ∧ ((noC M S f l p = 0 ∧ u = (ad2, mL (addS2 S), mf dT ad2 (up2 (up2 (up2 (ntM (up2 M 0 15 0) S.2.1 f l p) (7000 + S.2.1) 2 p) 2 0 ((up2 (ntM (up2 M 0 15 0) S.2.1 f l p) (7000 + S.2.1) 2 p) 2 0 + 1)) 2 2 (nI (S.2.1 + 1))) (addS2 S)) ∧ nI (S.2.1 + 1) = r) ∨ (¬ noC M S f l p = 0 ∧ u = (ad2, mL S, mf dT ad2 (up2 M 0 15 (noC M S f l p)) S)))) := by
  intro l9
  refine bi_of (own := RX8) (cc := cX8_note) (maxL := 7) (some .int) [(0, .ref (ad 0)), (1, .int f), (2, .int l), (3, .int p)] (by decide) rfl rfl rfl (Nat.le_of_ble_eq_true rfl) ?_
  intro X hX hE hN hM
  have q_w1 : Cond.fieldLink RX8 16 "PerforatumModel" "music" "Ljava/util/List;" ∈ wsX8_note := List.mem_of_getElem? (i := 1) rfl
  have q_inX8 : ∀ w ∈ wsX80, w ∈ wsX8_note := by decide +kernel
  have q_w3 : Cond.arrayClass .int ∈ wsX8_note := List.mem_of_getElem? (i := 3) rfl
  have q_w2 : Cond.classLink RX8 117 "[I" ∈ wsX8_note := List.mem_of_getElem? (i := 2) rfl
  have hS1 := hS.1
  have hS2 := hS.2.1
  have hS3 := hS.2.2.1
  refine g_aload_n hX 0 rfl dX8_note_0 rfl ?_
  refine g_iload_n hX 1 rfl dX8_note_1 rfl ?_
  refine g_iconst hX (0) dX8_note_2 rfl ?_
  refine g_sipush hX (199) dX8_note_3 rfl ?_
  refine b_callI_S hX hM [.int f, .int 0, .int 199] (k_X8_isIn f 0 199) gX8_note_X8_isIn rfl rfl rfl hd_X8_isIn.2 ⟨Nat.le_of_ble_eq_true rfl, Nat.le_of_ble_eq_true rfl⟩ ⟨Nat.le_of_ble_eq_true rfl, Nat.le_of_ble_eq_true rfl⟩ rfl (Nat.le_of_ble_eq_true rfl) dX8_note_6 (fun r9 ad9 L9 f9 hp9 => ?_)
  obtain ⟨he9, hr9⟩ := hp9
  cases he9
  subst hr9
  refine g_if_eq (tgt := 42) hX dX8_note_9 (by decide) (fun c_9 => ?_) (fun c_9 => ?_)
  · refine g_iconst hX (0) dX8_note_42 rfl ?_
    refine g_iconst hX (1) dX8_note_43 rfl ?_
    refine b_callI_V hX hM (b := 0) [.int 0, .int 1] (m_lo (by decide)) (pf_obj rfl (by decide)) rfl (k_X8_no (m_lo (by decide)) rfl 0 1) gX8_note_X8_no rfl rfl rfl hd_X8_no ⟨Nat.le_of_ble_eq_true rfl, Nat.le_of_ble_eq_true rfl⟩ ⟨Nat.le_of_ble_eq_true rfl, Nat.le_of_ble_eq_true rfl⟩ rfl (Nat.le_of_ble_eq_true rfl) dX8_note_44 (fun r9 ad9 L9 f9 hp9 => ?_)
    obtain ⟨he9, hr9⟩ := hp9
    cases he9
    subst hr9
    rw [show (if (0 : Int32) = 0 then (1 : Int32) else 0) = 1 from by decide]
    refine g_eqi (y := 1) (by decide) ?_
    refine g_if_eq (tgt := 52) hX dX8_note_47 (by decide) (fun c_47 => ?_) (fun c_47 => ?_)
    · first | exact absurd c_47 (by decide) | exact absurd (by decide) c_47
    · refine g_iconst hX (0) dX8_note_50 rfl ?_
      refine b_iret hX hE dX8_note_51 (by omega) (by omega) ?_
      exact ⟨_, AGm_rf, Or.inr ⟨by simp [noC, c_9], congrArg (fun z => (ad, mL S, mf dT ad z S)) (by simp [up2_ss, noC, c_9])⟩⟩
  · refine g_iload_n hX 2 rfl dX8_note_12 rfl ?_
    refine g_iconst hX (1) dX8_note_13 rfl ?_
    refine g_bipush hX (60) dX8_note_14 rfl ?_
    refine b_callI_S hX hM [.int l, .int 1, .int 60] (k_X8_isIn l 1 60) gX8_note_X8_isIn rfl rfl rfl hd_X8_isIn.2 ⟨Nat.le_of_ble_eq_true rfl, Nat.le_of_ble_eq_true rfl⟩ ⟨Nat.le_of_ble_eq_true rfl, Nat.le_of_ble_eq_true rfl⟩ rfl (Nat.le_of_ble_eq_true rfl) dX8_note_16 (fun r9 ad9 L9 f9 hp9 => ?_)
    obtain ⟨he9, hr9⟩ := hp9
    cases he9
    subst hr9
    refine g_if_eq (tgt := 42) hX dX8_note_19 (by decide) (fun c_19 => ?_) (fun c_19 => ?_)
    · refine g_iconst hX (0) dX8_note_42 rfl ?_
      refine g_iconst hX (1) dX8_note_43 rfl ?_
      refine b_callI_V hX hM (b := 0) [.int 0, .int 1] (m_lo (by decide)) (pf_obj rfl (by decide)) rfl (k_X8_no (m_lo (by decide)) rfl 0 1) gX8_note_X8_no rfl rfl rfl hd_X8_no ⟨Nat.le_of_ble_eq_true rfl, Nat.le_of_ble_eq_true rfl⟩ ⟨Nat.le_of_ble_eq_true rfl, Nat.le_of_ble_eq_true rfl⟩ rfl (Nat.le_of_ble_eq_true rfl) dX8_note_44 (fun r9 ad9 L9 f9 hp9 => ?_)
      obtain ⟨he9, hr9⟩ := hp9
      cases he9
      subst hr9
      rw [show (if (0 : Int32) = 0 then (1 : Int32) else 0) = 1 from by decide]
      refine g_eqi (y := 1) (by decide) ?_
      refine g_if_eq (tgt := 52) hX dX8_note_47 (by decide) (fun c_47 => ?_) (fun c_47 => ?_)
      · first | exact absurd c_47 (by decide) | exact absurd (by decide) c_47
      · refine g_iconst hX (0) dX8_note_50 rfl ?_
        refine b_iret hX hE dX8_note_51 (by omega) (by omega) ?_
        exact ⟨_, AGm_rf, Or.inr ⟨by simp [noC, c_9, c_19], congrArg (fun z => (ad, mL S, mf dT ad z S)) (by simp [up2_ss, noC, c_9, c_19])⟩⟩
    · refine g_iload_n hX 3 rfl dX8_note_22 rfl ?_
      refine b_callI_S hX hM [.int p] (k_X8_isNote p) gX8_note_X8_isNote rfl rfl rfl hd_X8_isNote.2 ⟨Nat.le_of_ble_eq_true rfl, Nat.le_of_ble_eq_true rfl⟩ ⟨Nat.le_of_ble_eq_true rfl, Nat.le_of_ble_eq_true rfl⟩ rfl (Nat.le_of_ble_eq_true rfl) dX8_note_23 (fun r9 ad9 L9 f9 hp9 => ?_)
      obtain ⟨he9, hr9⟩ := hp9
      cases he9
      subst hr9
      refine g_if_eq (tgt := 42) hX dX8_note_26 (by decide) (fun c_26 => ?_) (fun c_26 => ?_)
      · refine g_iconst hX (0) dX8_note_42 rfl ?_
        refine g_iconst hX (1) dX8_note_43 rfl ?_
        refine b_callI_V hX hM (b := 0) [.int 0, .int 1] (m_lo (by decide)) (pf_obj rfl (by decide)) rfl (k_X8_no (m_lo (by decide)) rfl 0 1) gX8_note_X8_no rfl rfl rfl hd_X8_no ⟨Nat.le_of_ble_eq_true rfl, Nat.le_of_ble_eq_true rfl⟩ ⟨Nat.le_of_ble_eq_true rfl, Nat.le_of_ble_eq_true rfl⟩ rfl (Nat.le_of_ble_eq_true rfl) dX8_note_44 (fun r9 ad9 L9 f9 hp9 => ?_)
        obtain ⟨he9, hr9⟩ := hp9
        cases he9
        subst hr9
        rw [show (if (0 : Int32) = 0 then (1 : Int32) else 0) = 1 from by decide]
        refine g_eqi (y := 1) (by decide) ?_
        refine g_if_eq (tgt := 52) hX dX8_note_47 (by decide) (fun c_47 => ?_) (fun c_47 => ?_)
        · first | exact absurd c_47 (by decide) | exact absurd (by decide) c_47
        · refine g_iconst hX (0) dX8_note_50 rfl ?_
          refine b_iret hX hE dX8_note_51 (by omega) (by omega) ?_
          exact ⟨_, AGm_rf, Or.inr ⟨by simp [noC, c_9, c_19, c_26], congrArg (fun z => (ad, mL S, mf dT ad z S)) (by simp [up2_ss, noC, c_9, c_19, c_26])⟩⟩
      · refine g_iload_n hX 1 rfl dX8_note_29 rfl ?_
        refine g_iload_n hX 2 rfl dX8_note_30 rfl ?_
        refine g_iadd hX dX8_note_31 ?_
        refine g_sipush hX (200) dX8_note_32 rfl ?_
        refine g_icmp_gt (tgt := 42) hX dX8_note_35 (by decide) (fun c_35 => ?_) (fun c_35 => ?_)
        · have c_35 := c_35
          refine g_iconst hX (0) dX8_note_42 rfl ?_
          refine g_iconst hX (1) dX8_note_43 rfl ?_
          refine b_callI_V hX hM (b := 0) [.int 0, .int 1] (m_lo (by decide)) (pf_obj rfl (by decide)) rfl (k_X8_no (m_lo (by decide)) rfl 0 1) gX8_note_X8_no rfl rfl rfl hd_X8_no ⟨Nat.le_of_ble_eq_true rfl, Nat.le_of_ble_eq_true rfl⟩ ⟨Nat.le_of_ble_eq_true rfl, Nat.le_of_ble_eq_true rfl⟩ rfl (Nat.le_of_ble_eq_true rfl) dX8_note_44 (fun r9 ad9 L9 f9 hp9 => ?_)
          obtain ⟨he9, hr9⟩ := hp9
          cases he9
          subst hr9
          rw [show (if (0 : Int32) = 0 then (1 : Int32) else 0) = 1 from by decide]
          refine g_eqi (y := 1) (by decide) ?_
          refine g_if_eq (tgt := 52) hX dX8_note_47 (by decide) (fun c_47 => ?_) (fun c_47 => ?_)
          · first | exact absurd c_47 (by decide) | exact absurd (by decide) c_47
          · refine g_iconst hX (0) dX8_note_50 rfl ?_
            refine b_iret hX hE dX8_note_51 (by omega) (by omega) ?_
            exact ⟨_, AGm_rf, Or.inr ⟨by simp [noC, c_9, c_19, c_26, c_35], congrArg (fun z => (ad, mL S, mf dT ad z S)) (by simp [up2_ss, noC, c_9, c_19, c_26, c_35])⟩⟩
        · have c_35 := c_35
          refine g_iconst hX (1) dX8_note_38 rfl ?_
          refine g_goto (tgt := 43) hX dX8_note_39 (by decide) ?_
          refine g_iconst hX (1) dX8_note_43 rfl ?_
          refine b_callI_V hX hM (b := 0) [.int 1, .int 1] (m_lo (by decide)) (pf_obj rfl (by decide)) rfl (k_X8_no (m_lo (by decide)) rfl 1 1) gX8_note_X8_no rfl rfl rfl hd_X8_no ⟨Nat.le_of_ble_eq_true rfl, Nat.le_of_ble_eq_true rfl⟩ ⟨Nat.le_of_ble_eq_true rfl, Nat.le_of_ble_eq_true rfl⟩ rfl (Nat.le_of_ble_eq_true rfl) dX8_note_44 (fun r9 ad9 L9 f9 hp9 => ?_)
          obtain ⟨he9, hr9⟩ := hp9
          cases he9
          subst hr9
          rw [show (if (1 : Int32) = 0 then (1 : Int32) else 0) = 0 from by decide]
          refine g_eqi (y := 0) (by decide) ?_
          refine g_if_eq (tgt := 52) hX dX8_note_47 (by decide) (fun c_47 => ?_) (fun c_47 => ?_)
          · refine g_iconst hX (1) dX8_note_52 rfl ?_
            refine g_istore hX [(4, .int 1), (0, .ref (ad 0)), (1, .int f), (2, .int l), (3, .int p)] rfl dX8_note_53 (by decide) ?_
            refine g_aload_n hX 1 rfl dX8_note_55 rfl ?_
            refine g_getRs (i := 0) hX 12 1 q_inX8 (m_lo (by decide)) rfl (by decide) rfl (by decide) rfl q_w1 rfl (j := 2) rfl dX8_note_56 ?_
            refine b_callQ_F hX hM (b := 2) [] (m_lo (by decide)) (pf_obj rfl (by decide)) rfl (v_iter 2 (S.2.1) 7000 9 (LV_2 hS (M := (up2 M 0 15 0)) ((up2_n (Or.inl (by decide))).trans hw2)) rfl (f_lo (by decide) (by decide) hS) (mR_no hS (f_lo (by decide) (by decide) hS) (by omega)) (mR_0 (by omega))) gX8_note_Jx4a65c_iterator_32c93_f104Jx4a65c (by decide +kernel) rfl rfl rfl hdF_iterator ⟨Nat.le_of_ble_eq_true rfl, Nat.le_of_ble_eq_true rfl⟩ ⟨Nat.le_of_ble_eq_true rfl, Nat.le_of_ble_eq_true rfl⟩ rfl (Nat.le_of_ble_eq_true rfl) dX8_note_59 (fun r9 ad9 L9 f9 hp9 => ?_)
            obtain ⟨qa1, he9, hr9⟩ := hp9
            cases he9
            subst hr9
            obtain ⟨a1, ha1⟩ : ∃ z9, z9 = va_up ad 9 qa1 := ⟨_, rfl⟩
            have va1 : qa1 = a1 9 := by rw [ha1]; exact (if_pos rfl).symm
            have ga1 : ∀ i, i ∈ (mL S) → a1 i = ad i := fun i hi => by rw [ha1]; exact va_up_ne _ _ (fun h => (f_lo (by decide) (by decide) hS) (h ▸ hi))
            have aga1 : AGm (mL S) ad a1 := by rw [ha1]; exact AGm_new AGm_rf (f_lo (by decide) (by decide) hS) (by omega)
            rw [← ha1]
            refine g_lvs (lv2 := [(4, .int 1), (0, .ref (a1 0)), (1, .int f), (2, .int l), (3, .int p)]) (st2 := [.ref (a1 9)]) (by rw [ga1 0 (m_lo (by decide))]) (by rw [va1]; rfl) ?_
            refine g_astore hX [(5, .ref (a1 9)), (4, .int 1), (0, .ref (a1 0)), (1, .int f), (2, .int l), (3, .int p)] rfl dX8_note_64 (by decide) ?_
            have lp_66 : ∀ (n9 : Nat) (k : Nat) (q : Int32), S.2.1 - k < n9 → (k ≤ S.2.1) → (q = farM M f l p k) → GG X D a1 ((mL S) ++ [9]) (pf dT mK mN (itM (up2 M 0 15 0) 9 2 k) (up2 (mR S) 9 3 (some 2)) a1) [(5, .ref (a1 9)), (4, .int q), (0, .ref (a1 0)), (1, .int f), (2, .int l), (3, .int p)] (0 + 1) (0 + 4) 66 [] := by
              intro n9
              induction n9 with
              | zero => intro k q h9; exact absurd h9 (Nat.not_lt_zero _)
              | succ n9 ih9 =>
                intro k q h9 hk hq
                have ih_66 := ih9
                refine g_aload hX 0 rfl dX8_note_66 ?_
                refine b_callI_F hX hM (b := 9) [] (List.mem_append_right _ (List.mem_singleton.mpr rfl)) (pf_obj rfl (by decide)) rfl (v_has 2 (S.2.1) 7000 9 k (LV_it (l2 := 2) (k := k) (LV_2 hS (M := (up2 M 0 15 0)) ((up2_n (Or.inl (by decide))).trans hw2)) rfl) (List.mem_append_right _ (List.mem_singleton.mpr rfl)) rfl up2_s (by omega) itM_0) gX8_note_Jx35411_hasNext_aae02_f108Jx35411 (by decide +kernel) rfl rfl rfl hdF_hasNext ⟨Nat.le_of_ble_eq_true rfl, Nat.le_of_ble_eq_true rfl⟩ ⟨Nat.le_of_ble_eq_true rfl, Nat.le_of_ble_eq_true rfl⟩ rfl (Nat.le_of_ble_eq_true rfl) dX8_note_68 (fun r9 ad9 L9 f9 hp9 => ?_)
                obtain ⟨he9, hr9⟩ := hp9
                cases he9
                subst hr9
                refine g_if_eq (tgt := 136) hX dX8_note_73 (by decide) (fun c_73 => ?_) (fun c_73 => ?_)
                · have c_73 := z01 c_73
                  refine g_lv [1, 2, 3, 4, 5] rfl ?_
                  refine g_lvs (lv2 := [(4, .int q), (0, .ref (a1 0)), (1, .int f), (2, .int l), (3, .int p)]) (st2 := []) rfl rfl ?_
                  refine g_L (L2 := mL S) (fun i hi => List.mem_append_left _ hi) mL_nd ?_
                  refine g_f (g := pf dT mK mN (up2 M 0 15 0) (mR S) a1) (fun i hi => (pf_I (itM_n (fun h => (f_lo (by decide) (by decide) hS) (h ▸ hi)))).trans (pf_R (up2_row (fun h => (f_lo (by decide) (by decide) hS) (h ▸ hi))))) ?_
                  have hq12 : q = farM M f l p S.2.1 := by rw [hq, c_73]
                  refine g_aload_n hX 1 rfl dX8_note_136 rfl ?_
                  refine g_iload hX 0 rfl dX8_note_137 ?_
                  refine g_iconst hX (2) dX8_note_139 rfl ?_
                  refine b_callI_V hX hM (b := 0) [.int q, .int 2] (m_lo (by decide)) (pf_obj rfl (by decide)) rfl (k_X8_no (m_lo (by decide)) rfl q 2) gX8_note_X8_no rfl rfl rfl hd_X8_no ⟨Nat.le_of_ble_eq_true rfl, Nat.le_of_ble_eq_true rfl⟩ ⟨Nat.le_of_ble_eq_true rfl, Nat.le_of_ble_eq_true rfl⟩ rfl (Nat.le_of_ble_eq_true rfl) dX8_note_140 (fun r9 ad9 L9 f9 hp9 => ?_)
                  obtain ⟨he9, hr9⟩ := hp9
                  cases he9
                  subst hr9
                  refine g_if_ne (tgt := 173) hX dX8_note_143 (by decide) (fun c_143 => ?_) (fun c_143 => ?_)
                  · have c_143 := z11 c_143
                    refine g_iconst hX (0) dX8_note_173 rfl ?_
                    refine b_iret hX hE dX8_note_174 (by omega) (by omega) ?_
                    exact ⟨_, aga1, Or.inr ⟨by simp [noC, c_9, c_19, c_26, c_35, c_143, ← hq12], congrArg (fun z => (a1, mL S, mf dT a1 z S)) (by simp [up2_ss, noC, c_9, c_19, c_26, c_35, c_143, ← hq12])⟩⟩
                  · have c_143 := z10 c_143
                    refine g_aload_n hX 1 rfl dX8_note_146 rfl ?_
                    refine g_aload_n hX 1 rfl dX8_note_147 rfl ?_
                    refine g_getRs (i := 0) hX 12 1 q_inX8 (m_lo (by decide)) rfl (by decide) rfl (by decide) rfl q_w1 rfl (j := 2) rfl dX8_note_148 ?_
                    refine b_callI_F hX hM (b := 2) [] (m_lo (by decide)) (pf_obj rfl (by decide)) rfl (k_Jx4a65c_size_8abf5 2 (m_lo (by decide)) rfl) gX8_note_Jx4a65c_size_8abf5_f54Jx4a65c (by decide +kernel) rfl rfl rfl hdF_size ⟨Nat.le_of_ble_eq_true rfl, Nat.le_of_ble_eq_true rfl⟩ ⟨Nat.le_of_ble_eq_true rfl, Nat.le_of_ble_eq_true rfl⟩ rfl (Nat.le_of_ble_eq_true rfl) dX8_note_151 (fun r9 ad9 L9 f9 hp9 => ?_)
                    obtain ⟨he9, hr9⟩ := hp9
                    cases he9
                    subst hr9
                    refine g_eqi (y := (nI S.2.1)) ((up2_n (Or.inl (by decide))).trans ((up2_n (Or.inl (by decide))).trans hw2)) ?_
                    refine g_bipush hX (40) dX8_note_156 rfl ?_
                    refine g_icmp_ge (tgt := 165) hX dX8_note_158 (by decide) (fun c_158 => ?_) (fun c_158 => ?_)
                    · have c_158 : 40 ≤ S.2.1 := (nI_leI (a := 40) (b := S.2.1) (by omega) (by omega)).mp c_158
                      refine g_iconst hX (0) dX8_note_165 rfl ?_
                      refine g_iconst hX (3) dX8_note_166 rfl ?_
                      refine b_callI_V hX hM (b := 0) [.int 0, .int 3] (m_lo (by decide)) (pf_obj rfl (by decide)) rfl (k_X8_no (m_lo (by decide)) rfl 0 3) gX8_note_X8_no rfl rfl rfl hd_X8_no ⟨Nat.le_of_ble_eq_true rfl, Nat.le_of_ble_eq_true rfl⟩ ⟨Nat.le_of_ble_eq_true rfl, Nat.le_of_ble_eq_true rfl⟩ rfl (Nat.le_of_ble_eq_true rfl) dX8_note_167 (fun r9 ad9 L9 f9 hp9 => ?_)
                      obtain ⟨he9, hr9⟩ := hp9
                      cases he9
                      subst hr9
                      rw [show (if (0 : Int32) = 0 then (3 : Int32) else 0) = 3 from by decide]
                      refine g_eqi (y := 1) (by decide) ?_
                      refine g_if_eq (tgt := 175) hX dX8_note_170 (by decide) (fun c_170 => ?_) (fun c_170 => ?_)
                      · first | exact absurd c_170 (by decide) | exact absurd (by decide) c_170
                      · refine g_iconst hX (0) dX8_note_173 rfl ?_
                        refine b_iret hX hE dX8_note_174 (by omega) (by omega) ?_
                        exact ⟨_, aga1, Or.inr ⟨by simp [noC, c_9, c_19, c_26, c_35, c_143, show ¬ S.2.1 < 40 by omega, ← hq12], congrArg (fun z => (a1, mL S, mf dT a1 z S)) (by simp [up2_ss, noC, c_9, c_19, c_26, c_35, c_143, show ¬ S.2.1 < 40 by omega, ← hq12])⟩⟩
                    · have c_158 : ¬ 40 ≤ S.2.1 := fun h9 => c_158 ((nI_leI (a := 40) (b := S.2.1) (by omega) (by omega)).mpr h9)
                      refine g_iconst hX (1) dX8_note_161 rfl ?_
                      refine g_goto (tgt := 166) hX dX8_note_162 (by decide) ?_
                      refine g_iconst hX (3) dX8_note_166 rfl ?_
                      refine b_callI_V hX hM (b := 0) [.int 1, .int 3] (m_lo (by decide)) (pf_obj rfl (by decide)) rfl (k_X8_no (m_lo (by decide)) rfl 1 3) gX8_note_X8_no rfl rfl rfl hd_X8_no ⟨Nat.le_of_ble_eq_true rfl, Nat.le_of_ble_eq_true rfl⟩ ⟨Nat.le_of_ble_eq_true rfl, Nat.le_of_ble_eq_true rfl⟩ rfl (Nat.le_of_ble_eq_true rfl) dX8_note_167 (fun r9 ad9 L9 f9 hp9 => ?_)
                      obtain ⟨he9, hr9⟩ := hp9
                      cases he9
                      subst hr9
                      rw [show (if (1 : Int32) = 0 then (3 : Int32) else 0) = 0 from by decide]
                      refine g_eqi (y := 0) (by decide) ?_
                      refine g_if_eq (tgt := 175) hX dX8_note_170 (by decide) (fun c_170 => ?_) (fun c_170 => ?_)
                      · rw [show (up2 (up2 (up2 M 0 15 0) 0 15 (if q = 0 then 2 else 0)) 0 15 0) = up2 M 0 15 0 from by simp [up2_ss, c_143]]
                        refine g_aload_n hX 1 rfl dX8_note_175 rfl ?_
                        refine g_getRs (i := 0) hX 12 1 q_inX8 (m_lo (by decide)) rfl (by decide) rfl (by decide) rfl q_w1 rfl (j := 2) rfl dX8_note_176 ?_
                        refine g_iconst hX (3) dX8_note_179 rfl ?_
                        refine g_f (g := pf dT mK mN (upr (up2 M 0 15 0) (7000 + S.2.1) (fun _ => 0)) (mR S) a1) (fun i hi => pf_I (upr_n (show i ≠ (7000 + S.2.1) from fun h => (f_n hS (Nat.le_refl _) (by have := hS.2.1; omega)) (h ▸ hi))).symm) ?_
                        refine g_newI hX (7000 + S.2.1) (f_n hS (Nat.le_refl _) (by have := hS.2.1; omega)) (mR_no hS (f_n hS (Nat.le_refl _) (by have := hS.2.1; omega)) (by omega)) 3 (mK_h (by omega)) (mN_n (by omega)) (fun k9 => congrFun upr_s k9) (x := 3) rfl (by decide) q_w3 (Nat.le_of_ble_eq_true rfl) (Nat.le_of_ble_eq_true rfl) dX8_note_180 (fun qn2 => ?_)
                        obtain ⟨a3, ha3⟩ : ∃ z9, z9 = va_up a1 (7000 + S.2.1) qn2 := ⟨_, rfl⟩
                        have ga3 : ∀ i, i ∈ (mL S) → a3 i = a1 i := fun i hi => by rw [ha3]; exact va_up_ne _ _ (fun h => (f_n hS (Nat.le_refl _) (by have := hS.2.1; omega)) (h ▸ hi))
                        rw [← ha3]
                        refine g_lvs (lv2 := [(4, .int q), (0, .ref (a3 0)), (1, .int f), (2, .int l), (3, .int p)]) (st2 := [.ref (a3 (7000 + S.2.1)), .ref (a3 2)]) (by rw [ga3 0 (m_lo (by decide))]) (by rw [ga3 2 (m_lo (by decide))]) ?_
                        have aga3 : AGm (mL S) ad a3 := by rw [ha3]; exact AGm_new aga1 (f_n hS (Nat.le_refl _) (by have := hS.2.1; omega)) (by omega)
                        refine g_dup hX dX8_note_182 rfl ?_
                        refine g_iconst hX (0) dX8_note_183 rfl ?_
                        refine g_iload_n hX 2 rfl dX8_note_184 rfl ?_
                        refine h_iast (i := (7000 + S.2.1)) hX 0 rfl (by rw [mN_n (by have := hS.2.1; omega)]; omega) (by rw [mN_n (by have := hS.2.1; omega)]; decide) (List.mem_append_right _ (List.mem_singleton.mpr rfl)) (mK_h (by omega)) dX8_note_185 ?_
                        refine g_dup hX dX8_note_186 rfl ?_
                        refine g_iconst hX (1) dX8_note_187 rfl ?_
                        refine g_iload_n hX 3 rfl dX8_note_188 rfl ?_
                        refine h_iast (i := (7000 + S.2.1)) hX 1 rfl (by rw [mN_n (by have := hS.2.1; omega)]; omega) (by rw [mN_n (by have := hS.2.1; omega)]; decide) (List.mem_append_right _ (List.mem_singleton.mpr rfl)) (mK_h (by omega)) dX8_note_189 ?_
                        refine g_dup hX dX8_note_190 rfl ?_
                        refine g_iconst hX (2) dX8_note_191 rfl ?_
                        refine g_iload_n hX 4 rfl dX8_note_192 rfl ?_
                        refine h_iast (i := (7000 + S.2.1)) hX 2 rfl (by rw [mN_n (by have := hS.2.1; omega)]; omega) (by rw [mN_n (by have := hS.2.1; omega)]; decide) (List.mem_append_right _ (List.mem_singleton.mpr rfl)) (mK_h (by omega)) dX8_note_193 ?_
                        refine b_callI_F hX hM (b := 2) [.ref (a3 (7000 + S.2.1))] (List.mem_append_left _ (m_lo (by decide))) (pf_obj rfl (by decide)) rfl (k_add2' (up2 (up2 (up2 (upr (up2 M 0 15 0) (7000 + S.2.1) (fun _ => 0)) (7000 + S.2.1) 0 f) (7000 + S.2.1) 1 l) (7000 + S.2.1) 2 p) S hS (show S.2.1 < 40 by omega) ((up2_n (Or.inl (by omega))).trans ((up2_n (Or.inl (by omega))).trans ((up2_n (Or.inl (by omega))).trans ((congrFun (upr_n (by omega)) 2).trans ((up2_n (Or.inl (by decide))).trans hw2))))) (AGm_z aga3 hz)) gX8_note_Jx4a65c_add_9ea2d_f70Jx4a65c (by decide +kernel) rfl rfl rfl hdF_add ⟨Nat.le_of_ble_eq_true rfl, Nat.le_of_ble_eq_true rfl⟩ ⟨by have := gC_le S.2.1 S.2.2.2.2.1; show _ ≤ 3; omega, by have := gS_2 hS (show S.2.1 < 40 by omega); show _ ≤ 56; omega⟩ rfl (Nat.le_of_ble_eq_true rfl) dX8_note_194 (fun r9 a4 L9 f9 hp9 => ?_)
                        obtain ⟨⟨x9, ga4, he9⟩, hr9⟩ := hp9
                        cases he9
                        subst hr9
                        have aga4 : AGm (mL S) ad a4 := AGm_add aga3 (fun i hi => ga4 i (by omega))
                        refine g_lvs (lv2 := [(4, .int q), (0, .ref (a4 0)), (1, .int f), (2, .int l), (3, .int p)]) (st2 := [.int 1]) (by rw [ga4 0 (by omega)]) rfl ?_
                        refine g_pop hX dX8_note_199 rfl ?_
                        refine g_aload_n hX 1 rfl dX8_note_200 rfl ?_
                        refine g_getRs (i := 0) hX 12 1 q_inX8 (m_lo (by decide)) rfl (by decide) rfl (by decide) rfl q_w1 rfl (j := 2) rfl dX8_note_201 ?_
                        refine b_callI_F hX hM (b := 2) [] (m_lo (by decide)) (pf_obj rfl (by decide)) rfl (k_Jx4a65c_size_8abf5 2 (m_lo (by decide)) rfl) gX8_note_Jx4a65c_size_8abf5_f54Jx4a65c (by decide +kernel) rfl rfl rfl hdF_size ⟨Nat.le_of_ble_eq_true rfl, Nat.le_of_ble_eq_true rfl⟩ ⟨by have := gC_le S.2.1 S.2.2.2.2.1; show _ ≤ 3; omega, by have := gS_2 hS (show S.2.1 < 40 by omega); show _ ≤ 56; omega⟩ rfl (Nat.le_of_ble_eq_true rfl) dX8_note_204 (fun r9 ad9 L9 f9 hp9 => ?_)
                        obtain ⟨he9, hr9⟩ := hp9
                        cases he9
                        subst hr9
                        refine g_eqi (y := (nI (S.2.1 + 1))) up2_s ?_
                        refine b_iret hX hE dX8_note_209 (by have := gC_le S.2.1 S.2.2.2.2.1; omega) (by have := gS_2 hS (show S.2.1 < 40 by omega); omega) ?_
                        exact ⟨_, aga4, Or.inl ⟨by simp [noC, c_9, c_19, c_26, c_35, c_143, show S.2.1 < 40 by omega, ← hq12], rfl, rfl⟩⟩
                      · first | exact absurd c_170 (by decide) | exact absurd (by decide) c_170
                · have c_73 := z00 c_73
                  refine g_aload hX 0 rfl dX8_note_76 ?_
                  refine b_callQ_F hX hM (b := 9) [] (List.mem_append_right _ (List.mem_singleton.mpr rfl)) (pf_obj rfl (by decide)) rfl (v_next 2 (S.2.1) 7000 9 k (LV_it (l2 := 2) (k := k) (LV_2 hS (M := (up2 M 0 15 0)) ((up2_n (Or.inl (by decide))).trans hw2)) rfl) (List.mem_append_right _ (List.mem_singleton.mpr rfl)) rfl up2_s (by omega)) gX8_note_Jx35411_next_0502b_f114Jx35411 (by decide +kernel) rfl rfl rfl hdF_next ⟨Nat.le_of_ble_eq_true rfl, Nat.le_of_ble_eq_true rfl⟩ ⟨Nat.le_of_ble_eq_true rfl, Nat.le_of_ble_eq_true rfl⟩ rfl (Nat.le_of_ble_eq_true rfl) dX8_note_78 (fun r9 ad9 L9 f9 hp9 => ?_)
                  obtain ⟨he9, hr9⟩ := hp9
                  cases he9
                  subst hr9
                  refine b_cast20 (i := (7000 + k)) hX (List.mem_append_left _ (m_n hS (by omega))) (mK_h (by omega)) q_w2 dX8_note_83 ?_
                  refine g_astore hX [(6, .ref (a1 (7000 + k))), (5, .ref (a1 9)), (4, .int q), (0, .ref (a1 0)), (1, .int f), (2, .int l), (3, .int p)] rfl dX8_note_86 (by decide) ?_
                  refine g_iload hX 2 rfl dX8_note_88 ?_
                  refine g_aload hX 0 rfl dX8_note_90 ?_
                  refine g_iconst hX (2) dX8_note_92 rfl ?_
                  refine h_iald (i := (7000 + k)) hX 2 rfl (by rw [mN_n (by have := hS.2.1; omega)]; omega) (by rw [mN_n (by have := hS.2.1; omega)]; decide) (List.mem_append_left _ (m_n hS (by omega))) (mK_h (by omega)) dX8_note_93 ?_
                  refine g_eqi (y := (M (7000 + k) 2)) ((congrFun (itM_n (by omega)) 2).trans (up2_n (Or.inl (by omega)))) ?_
                  refine g_iload_n hX 6 rfl dX8_note_94 rfl ?_
                  refine g_icmp_ne (tgt := 125) hX dX8_note_95 (by decide) (fun c_95 => ?_) (fun c_95 => ?_)
                  · refine g_iconst hX (1) dX8_note_125 rfl ?_
                    refine g_goto (tgt := 130) hX dX8_note_126 (by decide) ?_
                    refine g_iand hX dX8_note_130 ?_
                    refine g_istore hX [(4, .int (q &&& 1)), (6, .ref (a1 (7000 + k))), (5, .ref (a1 9)), (0, .ref (a1 0)), (1, .int f), (2, .int l), (3, .int p)] rfl dX8_note_131 (by decide) ?_
                    refine g_goto (tgt := 66) hX dX8_note_133 (by decide) ?_
                    refine g_lv [2, 0, 3, 4, 5, 6] rfl ?_
                    exact ih_66 (k + 1) (q &&& 1) (by omega) (by omega) (by rw [hq, farM, if_neg c_95])
                  · refine g_iload_n hX 4 rfl dX8_note_98 rfl ?_
                    refine g_aload hX 0 rfl dX8_note_99 ?_
                    refine g_iconst hX (0) dX8_note_101 rfl ?_
                    refine h_iald (i := (7000 + k)) hX 0 rfl (by rw [mN_n (by have := hS.2.1; omega)]; omega) (by rw [mN_n (by have := hS.2.1; omega)]; decide) (List.mem_append_left _ (m_n hS (by omega))) (mK_h (by omega)) dX8_note_102 ?_
                    refine g_eqi (y := (M (7000 + k) 0)) ((congrFun (itM_n (by omega)) 0).trans (up2_n (Or.inl (by omega)))) ?_
                    refine g_aload hX 0 rfl dX8_note_103 ?_
                    refine g_iconst hX (1) dX8_note_105 rfl ?_
                    refine h_iald (i := (7000 + k)) hX 1 rfl (by rw [mN_n (by have := hS.2.1; omega)]; omega) (by rw [mN_n (by have := hS.2.1; omega)]; decide) (List.mem_append_left _ (m_n hS (by omega))) (mK_h (by omega)) dX8_note_106 ?_
                    refine g_eqi (y := (M (7000 + k) 1)) ((congrFun (itM_n (by omega)) 1).trans (up2_n (Or.inl (by omega)))) ?_
                    refine g_iadd hX dX8_note_107 ?_
                    refine g_iconst hX (2) dX8_note_108 rfl ?_
                    refine g_iadd hX dX8_note_109 ?_
                    refine g_icmp_ge (tgt := 125) hX dX8_note_110 (by decide) (fun c_110 => ?_) (fun c_110 => ?_)
                    · refine g_iconst hX (1) dX8_note_125 rfl ?_
                      refine g_goto (tgt := 130) hX dX8_note_126 (by decide) ?_
                      refine g_iand hX dX8_note_130 ?_
                      refine g_istore hX [(4, .int (q &&& 1)), (6, .ref (a1 (7000 + k))), (5, .ref (a1 9)), (0, .ref (a1 0)), (1, .int f), (2, .int l), (3, .int p)] rfl dX8_note_131 (by decide) ?_
                      refine g_goto (tgt := 66) hX dX8_note_133 (by decide) ?_
                      refine g_lv [2, 0, 3, 4, 5, 6] rfl ?_
                      exact ih_66 (k + 1) (q &&& 1) (by omega) (by omega) (by rw [hq, farM, if_pos c_95, if_pos c_110])
                    · refine g_aload hX 0 rfl dX8_note_113 ?_
                      refine g_iconst hX (0) dX8_note_115 rfl ?_
                      refine h_iald (i := (7000 + k)) hX 0 rfl (by rw [mN_n (by have := hS.2.1; omega)]; omega) (by rw [mN_n (by have := hS.2.1; omega)]; decide) (List.mem_append_left _ (m_n hS (by omega))) (mK_h (by omega)) dX8_note_116 ?_
                      refine g_eqi (y := (M (7000 + k) 0)) ((congrFun (itM_n (by omega)) 0).trans (up2_n (Or.inl (by omega)))) ?_
                      refine g_iload_n hX 4 rfl dX8_note_117 rfl ?_
                      refine g_iload_n hX 5 rfl dX8_note_118 rfl ?_
                      refine g_iadd hX dX8_note_119 ?_
                      refine g_iconst hX (2) dX8_note_120 rfl ?_
                      refine g_iadd hX dX8_note_121 ?_
                      refine g_icmp_lt (tgt := 129) hX dX8_note_122 (by decide) (fun c_122 => ?_) (fun c_122 => ?_)
                      · refine g_iconst hX (0) dX8_note_129 rfl ?_
                        refine g_iand hX dX8_note_130 ?_
                        refine g_istore hX [(4, .int (q &&& 0)), (6, .ref (a1 (7000 + k))), (5, .ref (a1 9)), (0, .ref (a1 0)), (1, .int f), (2, .int l), (3, .int p)] rfl dX8_note_131 (by decide) ?_
                        refine g_goto (tgt := 66) hX dX8_note_133 (by decide) ?_
                        refine g_lv [2, 0, 3, 4, 5, 6] rfl ?_
                        exact ih_66 (k + 1) (q &&& 0) (by omega) (by omega) (by rw [hq, farM, if_pos c_95, if_neg c_110, if_pos c_122])
                      · refine g_iconst hX (1) dX8_note_125 rfl ?_
                        refine g_goto (tgt := 130) hX dX8_note_126 (by decide) ?_
                        refine g_iand hX dX8_note_130 ?_
                        refine g_istore hX [(4, .int (q &&& 1)), (6, .ref (a1 (7000 + k))), (5, .ref (a1 9)), (0, .ref (a1 0)), (1, .int f), (2, .int l), (3, .int p)] rfl dX8_note_131 (by decide) ?_
                        refine g_goto (tgt := 66) hX dX8_note_133 (by decide) ?_
                        refine g_lv [2, 0, 3, 4, 5, 6] rfl ?_
                        exact ih_66 (k + 1) (q &&& 1) (by omega) (by omega) (by rw [hq, farM, if_pos c_95, if_neg c_110, if_neg c_122])
            refine g_lv [0, 1, 2, 3, 4, 5] rfl ?_
            exact lp_66 _ 0 1 (Nat.lt_succ_self _) (Nat.zero_le _) rfl
          · first | exact absurd c_47 (by decide) | exact absurd (by decide) c_47
