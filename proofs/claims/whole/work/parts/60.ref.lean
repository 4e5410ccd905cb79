abbrev rm_X8_load : Room := { frames := 4, cells := 1, slots := 16, locals := 88 }
theorem hd_X8_load : yX8_load.cls = RX8 ∧ yX8_load.cls ≠ "java/lang/invoke/MethodHandle" ∧ yX8_load.cls ≠ "java/lang/invoke/VarHandle" ∧ (parseMethodDescriptor yX8_load.desc).map (fun d => d.parameters.length) = some 1 := by decide +kernel
set_option maxRecDepth 100000 in
set_option maxHeartbeats 4000000 in
theorem k_X8_load {D : va_G} {dT : Nat → ClassId} {Z : ZT} {ad : Nat → Nat} (M : Nat → Nat → Int32) (S : SZ) (hS : WS S) (hw1 : M 1 2 = nI S.1) (hw2 : M 2 2 = nI S.2.1) (hw3 : M 3 2 = nI S.2.2.1) (hz : ad 99999 = Z.1) (v : Int32) : ∀ l8, BI l8 yX8_load wsX8_load rm_X8_load D (tyl dT) Z ad (mL S) (pf dT mK mN M (mR S) ad) [.ref (ad 0), .int v] 1 16 (fun r u => ∃ ad2, AGm (mL S) ad ad2 ∧ ((r1C S v = 0 ∧ u = (ad2, mL (clrS3 S), mf dT ad2 (ldF (up2 M 0 15 0) v.toNatClampNeg) (clrS3 S)) ∧ nI (lenM (ldF (up2 M 0 15 0) v.toNatClampNeg) v.toNatClampNeg 200) = r) ∨ (¬ r1C S v = 0 ∧ u = (ad2, mL S, mf dT ad2 (up2 M 0 15 (r1C S v)) S)))) := by
  intro l9
  refine bi_of (own := RX8) (cc := cX8_load) (maxL := 6) (some .int) [(0, .ref (ad 0)), (1, .int v)] (by decide) rfl rfl rfl (Nat.le_of_ble_eq_true rfl) ?_
  intro X hX hE hN hM
  have q_w1 : Cond.fieldLink RX8 19 "PerforatumModel" "sounds" "Ljava/util/List;" ∈ wsX8_load := List.mem_of_getElem? (i := 1) rfl
  have q_inX8 : ∀ w ∈ wsX80, w ∈ wsX8_load := by decide +kernel
  have q_w2 : Cond.fieldLink RX8 152 "PerforatumModel" "openings" "I" ∈ wsX8_load := List.mem_of_getElem? (i := 2) rfl
  have q_w3 : Cond.fieldLink RX8 155 "PerforatumModel" "begun" "I" ∈ wsX8_load := List.mem_of_getElem? (i := 3) rfl
  have q_w4 : Cond.fieldLink RX8 158 "PerforatumModel" "row" "I" ∈ wsX8_load := List.mem_of_getElem? (i := 4) rfl
  have q_w5 : Cond.fieldLink RX8 161 "PerforatumModel" "suction" "I" ∈ wsX8_load := List.mem_of_getElem? (i := 5) rfl
  have q_w6 : Cond.fieldLink RX8 164 "PerforatumModel" "level" "I" ∈ wsX8_load := List.mem_of_getElem? (i := 6) rfl
  have q_w7 : Cond.fieldLink RX8 167 "PerforatumModel" "aside" "I" ∈ wsX8_load := List.mem_of_getElem? (i := 7) rfl
  have q_w8 : Cond.fieldLink RX8 170 "PerforatumModel" "latched" "Z" ∈ wsX8_load := List.mem_of_getElem? (i := 8) rfl
  have q_w9 : Cond.arrayClass .boolean ∈ wsX8_load := List.mem_of_getElem? (i := 9) rfl
  have q_w10 : Cond.fieldLink RX8 32 "PerforatumModel" "before" "[Z" ∈ wsX8_load := List.mem_of_getElem? (i := 10) rfl
  have q_w11 : Cond.fieldLink RX8 24 "PerforatumModel" "valves" "[LPerforatumModel$Valve;" ∈ wsX8_load := List.mem_of_getElem? (i := 11) rfl
  have q_w15 : Cond.fieldLink RX8 36 "PerforatumModel" "played" "I" ∈ wsX8_load := List.mem_of_getElem? (i := 15) rfl
  have q_w12 : Cond.fieldLink RX8 174 "PerforatumModel$Valve" "open" "Z" ∈ wsX8_load := List.mem_of_getElem? (i := 12) rfl
  have q_inX7 : ∀ w ∈ wsX70, w ∈ wsX8_load := by decide +kernel
  have q_w13 : Cond.fieldLink RX8 177 "PerforatumModel$Valve" "closed" "I" ∈ wsX8_load := List.mem_of_getElem? (i := 13) rfl
  have q_w14 : Cond.fieldLink RX8 180 "PerforatumModel$Valve" "state" "I" ∈ wsX8_load := List.mem_of_getElem? (i := 14) rfl
  have hS1 := hS.1
  have hS2 := hS.2.1
  have hS3 := hS.2.2.1
  refine g_aload_n hX 0 rfl dX8_load_0 rfl ?_
  refine g_aload_n hX 0 rfl dX8_load_1 rfl ?_
  refine g_iload_n hX 1 rfl dX8_load_2 rfl ?_
  refine b_callI_V hX hM (b := 0) [.int v] (m_lo (by decide)) (pf_obj rfl (by decide)) rfl (k_X8_isRoll (m_lo (by decide)) rfl (m_lo (by decide)) rfl rfl v) gX8_load_X8_isRoll rfl rfl rfl hd_X8_isRoll ⟨Nat.le_of_ble_eq_true rfl, Nat.le_of_ble_eq_true rfl⟩ ⟨Nat.le_of_ble_eq_true rfl, Nat.le_of_ble_eq_true rfl⟩ rfl (Nat.le_of_ble_eq_true rfl) dX8_load_3 (fun r9 ad9 L9 f9 hp9 => ?_)
  obtain ⟨he9, hr9⟩ := hp9
  cases he9
  subst hr9
  refine g_eqi (y := isi v 0 (nI S.1 - 1)) (by rw [hw1]) ?_
  refine g_iconst hX (1) dX8_load_6 rfl ?_
  refine b_callI_V hX hM (b := 0) [.int (isi v 0 (nI S.1 - 1)), .int 1] (m_lo (by decide)) (pf_obj rfl (by decide)) rfl (k_X8_no (m_lo (by decide)) rfl (isi v 0 (nI S.1 - 1)) 1) gX8_load_X8_no rfl rfl rfl hd_X8_no ⟨Nat.le_of_ble_eq_true rfl, Nat.le_of_ble_eq_true rfl⟩ ⟨Nat.le_of_ble_eq_true rfl, Nat.le_of_ble_eq_true rfl⟩ rfl (Nat.le_of_ble_eq_true rfl) dX8_load_7 (fun r9 ad9 L9 f9 hp9 => ?_)
  obtain ⟨he9, hr9⟩ := hp9
  cases he9
  subst hr9
  refine g_if_eq (tgt := 15) hX dX8_load_10 (by decide) (fun c_10 => ?_) (fun c_10 => ?_)
  · have c_10 := z10 c_10
    rw [show (up2 M 0 15 (if (isi v 0 (nI S.1 - 1)) = 0 then 1 else 0)) = up2 M 0 15 0 from by simp [up2_ss, c_10]]
    obtain ⟨j, hj, rfl⟩ := isi_n c_10 (by have := hS.1; omega)
    refine g_aload_n hX 0 rfl dX8_load_15 rfl ?_
    refine g_getRs (i := 0) hX 12 2 q_inX8 (m_lo (by decide)) rfl (by decide) rfl (by decide) rfl q_w1 rfl (j := 3) rfl dX8_load_16 ?_
    refine b_callV_F hX hM (b := 3) [] (m_lo (by decide)) (pf_obj rfl (by decide)) rfl (k_clr3 (up2 M 0 15 0) S hS ((up2_n (Or.inl (by decide))).trans hw3) hz) gX8_load_Jx4a65c_clear_da8c8_f118Jx4a65c (by decide +kernel) rfl rfl rfl hdF_clear ⟨Nat.le_of_ble_eq_true rfl, Nat.le_of_ble_eq_true rfl⟩ ⟨Nat.le_of_ble_eq_true rfl, Nat.le_of_ble_eq_true rfl⟩ rfl (Nat.le_of_ble_eq_true rfl) dX8_load_19 (fun ad9 L9 f9 hp9 => ?_)
    cases hp9
    refine g_aload_n hX 0 rfl dX8_load_24 rfl ?_
    refine g_iconst hX (0) dX8_load_25 rfl ?_
    refine g_putI hX (i := 0) 12 11 q_inX8 (m_lo (by decide)) rfl (by decide) rfl (by decide) rfl q_w2 rfl tyX8_ok nmX8 rfl (ty := .int) (by decide +kernel) rfl rfl dX8_load_26 ?_
    refine g_aload_n hX 0 rfl dX8_load_29 rfl ?_
    refine g_iconst hX (0) dX8_load_30 rfl ?_
    refine g_putI hX (i := 0) 12 12 q_inX8 (m_lo (by decide)) rfl (by decide) rfl (by decide) rfl q_w3 rfl tyX8_ok nmX8 rfl (ty := .int) (by decide +kernel) rfl rfl dX8_load_31 ?_
    refine g_aload_n hX 0 rfl dX8_load_34 rfl ?_
    refine g_iconst hX (0) dX8_load_35 rfl ?_
    refine g_putI hX (i := 0) 12 7 q_inX8 (m_lo (by decide)) rfl (by decide) rfl (by decide) rfl q_w4 rfl tyX8_ok nmX8 rfl (ty := .int) (by decide +kernel) rfl rfl dX8_load_36 ?_
    refine g_aload_n hX 0 rfl dX8_load_39 rfl ?_
    refine g_sipush hX (1000) dX8_load_40 rfl ?_
    refine g_putI hX (i := 0) 12 8 q_inX8 (m_lo (by decide)) rfl (by decide) rfl (by decide) rfl q_w5 rfl tyX8_ok nmX8 rfl (ty := .int) (by decide +kernel) rfl rfl dX8_load_43 ?_
    refine g_aload_n hX 0 rfl dX8_load_46 rfl ?_
    refine g_iconst hX (3) dX8_load_47 rfl ?_
    refine g_putI hX (i := 0) 12 9 q_inX8 (m_lo (by decide)) rfl (by decide) rfl (by decide) rfl q_w6 rfl tyX8_ok nmX8 rfl (ty := .int) (by decide +kernel) rfl rfl dX8_load_48 ?_
    refine g_aload_n hX 0 rfl dX8_load_51 rfl ?_
    refine g_iconst hX (0) dX8_load_52 rfl ?_
    refine g_putI hX (i := 0) 12 10 q_inX8 (m_lo (by decide)) rfl (by decide) rfl (by decide) rfl q_w7 rfl tyX8_ok nmX8 rfl (ty := .int) (by decide +kernel) rfl rfl dX8_load_53 ?_
    refine g_aload_n hX 0 rfl dX8_load_56 rfl ?_
    refine g_iconst hX (0) dX8_load_57 rfl ?_
    refine g_putI hX (i := 0) 12 16 q_inX8 (m_lo (by decide)) rfl (by decide) rfl (by decide) rfl q_w8 rfl tyX8_ok nmX8 rfl (ty := .boolean) (by decide +kernel) rfl rfl dX8_load_58 ?_
    refine g_aload_n hX 0 rfl dX8_load_61 rfl ?_
    refine g_f (g := pf dT mK mN (upr (up2 (up2 (up2 (up2 (up2 (up2 (up2 (up2 (up2 (up2 M 0 15 0) 3 0 ((up2 M 0 15 0) 3 0 + 1)) 3 2 0) 0 11 0) 0 12 0) 0 7 0) 0 8 1000) 0 9 3) 0 10 0) 0 16 0) 7 (fun _ => 0)) (mR (clrS3 S)) ad) (fun i hi => pf_I (upr_n (show i ≠ 7 from fun h => (f_lo (by decide) (by decide) (WS_c3 hS)) (h ▸ hi))).symm) ?_
    refine g_bipush hX (16) dX8_load_62 rfl ?_
    refine g_newZ hX 7 (f_lo (by decide) (by decide) (WS_c3 hS)) (mR_no (WS_c3 hS) (f_lo (by decide) (by decide) (WS_c3 hS)) (by omega)) 16 rfl rfl (fun k9 => congrFun upr_s k9) (x := 16) rfl (by decide) q_w9 (Nat.le_of_ble_eq_true rfl) (Nat.le_of_ble_eq_true rfl) dX8_load_64 (fun qn1 => ?_)
    obtain ⟨a2, ha2⟩ : ∃ z9, z9 = va_up ad 7 qn1 := ⟨_, rfl⟩
    have ga2 : ∀ i, i ∈ (mL (clrS3 S)) → a2 i = ad i := fun i hi => by rw [ha2]; exact va_up_ne _ _ (fun h => (f_lo (by decide) (by decide) (WS_c3 hS)) (h ▸ hi))
    rw [← ha2]
    refine g_lvs (lv2 := [(0, .ref (a2 0)), (1, .int (nI j))]) (st2 := [.ref (a2 7), .ref (a2 0)]) (by rw [ga2 0 (m_lo (by decide))]) (by rw [ga2 0 (m_lo (by decide))]) ?_
    have aga2 : AGm (mL S) ad a2 := by rw [ha2]; exact AGm_new AGm_rf (f_lo (by decide) (by decide) hS) (by omega)
    refine g_putR hX (i := 0) 12 5 q_inX8 (List.mem_append_left _ (m_lo (by decide))) rfl (by decide) rfl (by decide) rfl q_w10 rfl tyX8_ok nmX8 rfl (ty := .array .boolean) (by decide +kernel) (x := (some 7)) rfl rfl rfl dX8_load_66 ?_
    obtain ⟨J0, hJ0⟩ : ∃ z, z = (upr (up2 (up2 (up2 (up2 (up2 (up2 (up2 (up2 (up2 (up2 M 0 15 0) 3 0 ((up2 M 0 15 0) 3 0 + 1)) 3 2 0) 0 11 0) 0 12 0) 0 7 0) 0 8 1000) 0 9 3) 0 10 0) 0 16 0) 7 (fun _ => 0)) := ⟨_, rfl⟩
    have hj1 : J0 1 2 = nI (clrS3 S).1 := by rw [hJ0]; exact ((congrFun (upr_n (by decide)) 2).trans ((up2_n (Or.inl (by decide))).trans ((up2_n (Or.inl (by decide))).trans ((up2_n (Or.inl (by decide))).trans ((up2_n (Or.inl (by decide))).trans ((up2_n (Or.inl (by decide))).trans ((up2_n (Or.inl (by decide))).trans ((up2_n (Or.inl (by decide))).trans ((up2_n (Or.inl (by decide))).trans ((up2_n (Or.inl (by decide))).trans ((up2_n (Or.inl (by decide))).trans hw1)))))))))))
    have hj2 : J0 2 2 = nI (clrS3 S).2.1 := by rw [hJ0]; exact ((congrFun (upr_n (by decide)) 2).trans ((up2_n (Or.inl (by decide))).trans ((up2_n (Or.inl (by decide))).trans ((up2_n (Or.inl (by decide))).trans ((up2_n (Or.inl (by decide))).trans ((up2_n (Or.inl (by decide))).trans ((up2_n (Or.inl (by decide))).trans ((up2_n (Or.inl (by decide))).trans ((up2_n (Or.inl (by decide))).trans ((up2_n (Or.inl (by decide))).trans ((up2_n (Or.inl (by decide))).trans hw2)))))))))))
    have hj3 : J0 3 2 = nI (clrS3 S).2.2.1 := by rw [hJ0]; exact ((congrFun (upr_n (by decide)) 2).trans ((up2_n (Or.inl (by decide))).trans ((up2_n (Or.inl (by decide))).trans ((up2_n (Or.inl (by decide))).trans ((up2_n (Or.inl (by decide))).trans ((up2_n (Or.inl (by decide))).trans ((up2_n (Or.inl (by decide))).trans ((up2_n (Or.inl (by decide))).trans up2_s))))))))
    rw [← hJ0]
    refine g_aload_n hX 0 rfl dX8_load_69 rfl ?_
    refine g_getRs (i := 0) hX 12 3 q_inX8 (List.mem_append_left _ (m_lo (by decide))) rfl (by decide) rfl (by decide) rfl q_w11 rfl (j := 4) (up2_n (Or.inr (by decide))) dX8_load_70 ?_
    refine g_astore_n hX [(2, .ref (a2 4)), (0, .ref (a2 0)), (1, .int (nI j))] rfl dX8_load_73 rfl (by decide) ?_
    refine g_aload_n hX 0 rfl dX8_load_74 rfl ?_
    refine g_alen24 (i := 4) hX rfl (nI 12) (List.mem_append_left _ (m_lo (by decide))) rfl rfl dX8_load_75 ?_
    refine g_istore_n hX [(3, .int (nI 12)), (2, .ref (a2 4)), (0, .ref (a2 0)), (1, .int (nI j))] rfl dX8_load_76 rfl (by decide) ?_
    refine g_iconst hX (0) dX8_load_77 rfl ?_
    refine g_istore hX [(4, .int 0), (3, .int (nI 12)), (2, .ref (a2 4)), (0, .ref (a2 0)), (1, .int (nI j))] rfl dX8_load_78 (by decide) ?_
    have lp_80 : ∀ (n9 : Nat) (k : Nat), 12 - k < n9 → (k ≤ 12) → GG X D a2 ((mL (clrS3 S)) ++ [7]) (pf dT mK mN (ldV J0 k) (up2 (mR (clrS3 S)) 0 5 (some 7)) a2) [(4, .int (nI k)), (3, .int (nI 12)), (2, .ref (a2 4)), (0, .ref (a2 0)), (1, .int (nI j))] (0 + 1) (0 + 16) 80 [] := by
      intro n9
      induction n9 with
      | zero => intro k h9; exact absurd h9 (Nat.not_lt_zero _)
      | succ n9 ih9 =>
        intro k h9 hk
        have ih_80 := ih9
        refine g_iload hX 0 rfl dX8_load_80 ?_
        refine g_iload_n hX 1 rfl dX8_load_82 rfl ?_
        refine g_icmp_ge (tgt := 116) hX dX8_load_83 (by decide) (fun c_83 => ?_) (fun c_83 => ?_)
        · have c_83 : 12 ≤ k := (nI_leI (a := 12) (b := k) (by omega) (by omega)).mp c_83
          have hk12 : k = 12 := by omega
          subst hk12
          refine g_ren7 (T := clrS3 S) (WS_c3 hS) ?_
          obtain ⟨a3, ha3⟩ : ∃ z9, z9 = va_up a2 6 (a2 7) := ⟨_, rfl⟩
          have aga3 : AGm (mL S) ad a3 := by rw [ha3]; exact AGm_ren aga2
          rw [← ha3]
          refine g_lvs (lv2 := [(4, .int (nI 12)), (3, .int (nI 12)), (2, .ref (a3 4)), (0, .ref (a3 0)), (1, .int (nI j))]) (st2 := []) (by rw [show a3 4 = a2 4 from by rw [ha3]; exact va_up_ne _ _ (by omega), show a3 0 = a2 0 from by rw [ha3]; exact va_up_ne _ _ (by omega)]) rfl ?_
          refine g_aload_n hX 3 rfl dX8_load_116 rfl ?_
          refine g_aload_n hX 3 rfl dX8_load_117 rfl ?_
          refine g_iload_n hX 4 rfl dX8_load_118 rfl ?_
          refine b_callI_V hX hM (b := 0) [.int (nI j)] (m_lo (by decide)) (pf_obj rfl (by decide)) rfl (k_X8_lengthOf (upr (ldV J0 12) 6 ((ldV J0 12) 7)) (clrS3 S) (WS_c3 hS) ((congrFun (upr_n (by decide)) 2).trans ((congrFun (ldV_n (by omega) 12 (by omega)) 2).trans hj1)) ((congrFun (upr_n (by decide)) 2).trans ((congrFun (ldV_n (by omega) 12 (by omega)) 2).trans hj2)) ((congrFun (upr_n (by decide)) 2).trans ((congrFun (ldV_n (by omega) 12 (by omega)) 2).trans hj3)) j hj) gX8_load_X8_lengthOf rfl rfl rfl hd_X8_lengthOf ⟨Nat.le_of_ble_eq_true rfl, Nat.le_of_ble_eq_true rfl⟩ ⟨Nat.le_of_ble_eq_true rfl, Nat.le_of_ble_eq_true rfl⟩ rfl (Nat.le_of_ble_eq_true rfl) dX8_load_119 (fun r9 ad9 L9 f9 hp9 => ?_)
          obtain ⟨he9, hr9⟩ := hp9
          cases he9
          subst hr9
          refine g_if_le (tgt := 129) hX dX8_load_122 (by decide) (fun c_122 => ?_) (fun c_122 => ?_)
          · refine g_iconst hX (-1) dX8_load_129 rfl ?_
            refine g_putI hX (i := 0) 12 6 q_inX8 (m_lo (by decide)) rfl (by decide) rfl (by decide) rfl q_w15 rfl tyX8_ok nmX8 rfl (ty := .int) (by decide +kernel) rfl rfl dX8_load_130 ?_
            refine g_aload_n hX 3 rfl dX8_load_133 rfl ?_
            refine g_iload_n hX 4 rfl dX8_load_134 rfl ?_
            refine b_callI_V hX hM (b := 0) [.int (nI j)] (m_lo (by decide)) (pf_obj rfl (by decide)) rfl (k_X8_lengthOf (up2 (upr (ldV J0 12) 6 ((ldV J0 12) 7)) 0 6 (-1)) (clrS3 S) (WS_c3 hS) ((up2_n (Or.inl (by decide))).trans ((congrFun (upr_n (by decide)) 2).trans ((congrFun (ldV_n (by omega) 12 (by omega)) 2).trans hj1))) ((up2_n (Or.inl (by decide))).trans ((congrFun (upr_n (by decide)) 2).trans ((congrFun (ldV_n (by omega) 12 (by omega)) 2).trans hj2))) ((up2_n (Or.inl (by decide))).trans ((congrFun (upr_n (by decide)) 2).trans ((congrFun (ldV_n (by omega) 12 (by omega)) 2).trans hj3))) j hj) gX8_load_X8_lengthOf rfl rfl rfl hd_X8_lengthOf ⟨Nat.le_of_ble_eq_true rfl, Nat.le_of_ble_eq_true rfl⟩ ⟨Nat.le_of_ble_eq_true rfl, Nat.le_of_ble_eq_true rfl⟩ rfl (Nat.le_of_ble_eq_true rfl) dX8_load_135 (fun r9 ad9 L9 f9 hp9 => ?_)
            obtain ⟨he9, hr9⟩ := hp9
            cases he9
            subst hr9
            refine b_iret hX hE dX8_load_138 (by omega) (by omega) ?_
            subst hJ0
            have hF : up2 (ld2 (up2 M 0 15 0)) 0 6 (-1) = ldF (up2 M 0 15 0) j := by
              rw [ldF, if_pos (show nI (lenM (ld2 (up2 M 0 15 0)) j 200) ≤ 0 from c_122)]
            exact ⟨_, aga3, Or.inl ⟨by simp [r1C, c_10], by rw [nI_clamp (n := j) (by omega), ← hF]; rfl, by rw [nI_clamp (n := j) (by omega), ← hF]; rfl⟩⟩
          · refine g_iload_n hX 4 rfl dX8_load_125 rfl ?_
            refine g_goto (tgt := 130) hX dX8_load_126 (by decide) ?_
            refine g_putI hX (i := 0) 12 6 q_inX8 (m_lo (by decide)) rfl (by decide) rfl (by decide) rfl q_w15 rfl tyX8_ok nmX8 rfl (ty := .int) (by decide +kernel) rfl rfl dX8_load_130 ?_
            refine g_aload_n hX 3 rfl dX8_load_133 rfl ?_
            refine g_iload_n hX 4 rfl dX8_load_134 rfl ?_
            refine b_callI_V hX hM (b := 0) [.int (nI j)] (m_lo (by decide)) (pf_obj rfl (by decide)) rfl (k_X8_lengthOf (up2 (upr (ldV J0 12) 6 ((ldV J0 12) 7)) 0 6 (nI j)) (clrS3 S) (WS_c3 hS) ((up2_n (Or.inl (by decide))).trans ((congrFun (upr_n (by decide)) 2).trans ((congrFun (ldV_n (by omega) 12 (by omega)) 2).trans hj1))) ((up2_n (Or.inl (by decide))).trans ((congrFun (upr_n (by decide)) 2).trans ((congrFun (ldV_n (by omega) 12 (by omega)) 2).trans hj2))) ((up2_n (Or.inl (by decide))).trans ((congrFun (upr_n (by decide)) 2).trans ((congrFun (ldV_n (by omega) 12 (by omega)) 2).trans hj3))) j hj) gX8_load_X8_lengthOf rfl rfl rfl hd_X8_lengthOf ⟨Nat.le_of_ble_eq_true rfl, Nat.le_of_ble_eq_true rfl⟩ ⟨Nat.le_of_ble_eq_true rfl, Nat.le_of_ble_eq_true rfl⟩ rfl (Nat.le_of_ble_eq_true rfl) dX8_load_135 (fun r9 ad9 L9 f9 hp9 => ?_)
            obtain ⟨he9, hr9⟩ := hp9
            cases he9
            subst hr9
            refine b_iret hX hE dX8_load_138 (by omega) (by omega) ?_
            subst hJ0
            have hF : up2 (ld2 (up2 M 0 15 0)) 0 6 (nI j) = ldF (up2 M 0 15 0) j := by
              rw [ldF, if_neg (show ¬ nI (lenM (ld2 (up2 M 0 15 0)) j 200) ≤ 0 from c_122)]
            exact ⟨_, aga3, Or.inl ⟨by simp [r1C, c_10], by rw [nI_clamp (n := j) (by omega), ← hF]; rfl, by rw [nI_clamp (n := j) (by omega), ← hF]; rfl⟩⟩
        · have c_83 : ¬ 12 ≤ k := fun h9 => c_83 ((nI_leI (a := 12) (b := k) (by omega) (by omega)).mpr h9)
          refine g_aload_n hX 2 rfl dX8_load_86 rfl ?_
          refine g_iload hX 0 rfl dX8_load_87 ?_
          refine h_aald24 (i := 4) hX k rfl (by show _ < (12 : Nat); omega) (by decide) (j := (20 + k)) ((up2_n (Or.inl (by decide))).trans (mR_v (by omega))) (List.mem_append_left _ (m_lo (by decide))) rfl dX8_load_89 ?_
          refine g_astore hX [(5, .ref (a2 (20 + k))), (4, .int (nI k)), (3, .int (nI 12)), (2, .ref (a2 4)), (0, .ref (a2 0)), (1, .int (nI j))] rfl dX8_load_90 (by decide) ?_
          refine g_aload hX 0 rfl dX8_load_92 ?_
          refine g_iconst hX (0) dX8_load_94 rfl ?_
          refine g_putI hX (i := (20 + k)) 11 9 q_inX7 (List.mem_append_left _ (m_v (by omega))) (mK_v (by omega)) (by decide) rfl (by decide) rfl q_w12 rfl tyX7_ok nmX7 rfl (ty := .boolean) (by decide +kernel) rfl rfl dX8_load_95 ?_
          refine g_aload hX 0 rfl dX8_load_98 ?_
          refine g_iconst hX (-1) dX8_load_100 rfl ?_
          refine g_putI hX (i := (20 + k)) 11 6 q_inX7 (List.mem_append_left _ (m_v (by omega))) (mK_v (by omega)) (by decide) rfl (by decide) rfl q_w13 rfl tyX7_ok nmX7 rfl (ty := .int) (by decide +kernel) rfl rfl dX8_load_101 ?_
          refine g_aload hX 0 rfl dX8_load_104 ?_
          refine g_iconst hX (0) dX8_load_106 rfl ?_
          refine g_putI hX (i := (20 + k)) 11 7 q_inX7 (List.mem_append_left _ (m_v (by omega))) (mK_v (by omega)) (by decide) rfl (by decide) rfl q_w14 rfl tyX7_ok nmX7 rfl (ty := .int) (by decide +kernel) rfl rfl dX8_load_107 ?_
          refine g_iinc hX (nI (k + 1)) [(4, .int (nI (k + 1))), (5, .ref (a2 (20 + k))), (3, .int (nI 12)), (2, .ref (a2 4)), (0, .ref (a2 0)), (1, .int (nI j))] (k := 1) rfl (g_inc k) rfl dX8_load_110 (by decide) ?_
          refine g_goto (tgt := 80) hX dX8_load_113 (by decide) ?_
          rw [show (up2 (up2 (up2 (ldV J0 k) (20 + k) 9 0) (20 + k) 6 (-1)) (20 + k) 7 0) = (ldV J0 (k + 1)) from rfl]
          skip
          refine g_lv [0, 2, 3, 4, 5] rfl ?_
          exact ih_80 (k + 1) (by omega) (by omega)
    refine g_lv [0, 1, 2, 3, 4] rfl ?_
    exact lp_80 _ 0 (Nat.lt_succ_self _) (Nat.zero_le _)
  · have c_10 := z11 c_10
    refine g_iconst hX (0) dX8_load_13 rfl ?_
    refine b_iret hX hE dX8_load_14 (by omega) (by omega) ?_
    exact ⟨_, AGm_rf, Or.inr ⟨by simp [r1C, c_10], congrArg (fun z => (ad, mL S, mf dT ad z S)) (by simp [r1C, c_10])⟩⟩
abbrev rm_X8_tick : Room := { frames := 10, cells := 420, slots := 4200, locals := 262 }
theorem hd_X8_tick : yX8_tick.cls = RX8 ∧ yX8_tick.cls ≠ "java/lang/invoke/MethodHandle" ∧ yX8_tick.cls ≠ "java/lang/invoke/VarHandle" ∧ (parseMethodDescriptor yX8_tick.desc).map (fun d => d.parameters.length) = some 1 := by decide +kernel
set_option maxRecDepth 100000 in
set_option maxHeartbeats 4000000 in
theorem k_X8_tick {D : va_G} {dT : Nat → ClassId} {Z : ZT} {ad : Nat → Nat} (M : Nat → Nat → Int32) (S : SZ) (hS : WS S) (hw1 : M 1 2 = nI S.1) (hw2 : M 2 2 = nI S.2.1) (hw3 : M 3 2 = nI S.2.2.1) (hz : ad 99999 = Z.1) (hix : IXP M S) (hlat : M 0 16 = 0 ∨ M 0 16 = 1) (hpl : M 0 6 < 0 ∨ ∃ j, j < S.1 ∧ M 0 6 = nI j) (r0 : Nat) (hr0 : r0 ≤ 200) (hrow : M 0 7 = nI r0) (t : Int32) : ∀ l8, BI l8 yX8_tick wsX8_tick rm_X8_tick D (tyl dT) Z ad (mL S) (pf dT mK mN M (mR S) ad) [.ref (ad 0), .int t] 420 4200 (fun r u => ∃ ad2, AGm (mL S) ad ad2 ∧ ((tiC M t = 0 ∧ ∃ j, j < S.1 ∧ M 0 6 = nI j ∧ u = (ad2, mL ((tkS (up2 M 0 15 0) S j r0 (tkN (up2 M 0 15 0) t.toNatClampNeg j r0)).2), mf dT ad2 (tkF (up2 M 0 15 0) S t.toNatClampNeg j r0) ((tkS (up2 M 0 15 0) S j r0 (tkN (up2 M 0 15 0) t.toNatClampNeg j r0)).2)) ∧ nI (tkN (up2 M 0 15 0) t.toNatClampNeg j r0) = r) ∨ (¬ tiC M t = 0 ∧ u = (ad2, mL S, mf dT ad2 (up2 M 0 15 (tiC M t)) S)))) := by
  intro l9
  refine bi_of (own := RX8) (cc := cX8_tick) (maxL := 7) (some .int) [(0, .ref (ad 0)), (1, .int t)] (by decide) rfl rfl rfl (Nat.le_of_ble_eq_true rfl) ?_
  intro X hX hE hN hM
  have q_w1 : Cond.fieldLink RX8 158 "PerforatumModel" "row" "I" ∈ wsX8_tick := List.mem_of_getElem? (i := 1) rfl
  have q_inX8 : ∀ w ∈ wsX80, w ∈ wsX8_tick := by decide +kernel
  have q_w2 : Cond.fieldLink RX8 36 "PerforatumModel" "played" "I" ∈ wsX8_tick := List.mem_of_getElem? (i := 2) rfl
  have q_w3 : Cond.fieldLink RX8 24 "PerforatumModel" "valves" "[LPerforatumModel$Valve;" ∈ wsX8_tick := List.mem_of_getElem? (i := 3) rfl
  have q_w4 : Cond.fieldLink RX8 174 "PerforatumModel$Valve" "open" "Z" ∈ wsX8_tick := List.mem_of_getElem? (i := 4) rfl
  have q_inX7 : ∀ w ∈ wsX70, w ∈ wsX8_tick := by decide +kernel
  have q_w5 : Cond.fieldLink RX8 180 "PerforatumModel$Valve" "state" "I" ∈ wsX8_tick := List.mem_of_getElem? (i := 5) rfl
  have hS1 := hS.1
  have hS2 := hS.2.1
  have hS3 := hS.2.2.1
  refine g_aload_n hX 0 rfl dX8_tick_0 rfl ?_
  refine b_callI_V hX hM (b := 0) [] (m_lo (by decide)) (pf_obj rfl (by decide)) rfl (k_X8_noPlay (m_lo (by decide)) rfl) gX8_tick_X8_noPlay rfl rfl rfl hd_X8_noPlay ⟨Nat.le_of_ble_eq_true rfl, Nat.le_of_ble_eq_true rfl⟩ ⟨Nat.le_of_ble_eq_true rfl, Nat.le_of_ble_eq_true rfl⟩ rfl (Nat.le_of_ble_eq_true rfl) dX8_tick_1 (fun r9 ad9 L9 f9 hp9 => ?_)
  obtain ⟨he9, hr9⟩ := hp9
  cases he9
  subst hr9
  refine g_if_ne (tgt := 22) hX dX8_tick_4 (by decide) (fun c_4 => ?_) (fun c_4 => ?_)
  · have c_4 := z11 c_4
    refine g_iconst hX (0) dX8_tick_22 rfl ?_
    refine b_iret hX hE dX8_tick_23 (by omega) (by omega) ?_
    exact ⟨_, AGm_rf, Or.inr ⟨by simp [tiC, c_4], congrArg (fun z => (ad, mL S, mf dT ad z S)) (by simp [up2_ss, tiC, c_4])⟩⟩
  · have c_4 := z10 c_4
    refine g_aload_n hX 0 rfl dX8_tick_7 rfl ?_
    refine g_iload_n hX 1 rfl dX8_tick_8 rfl ?_
    refine g_iconst hX (1) dX8_tick_9 rfl ?_
    refine g_bipush hX (100) dX8_tick_10 rfl ?_
    refine b_callI_S hX hM [.int t, .int 1, .int 100] (k_X8_isIn t 1 100) gX8_tick_X8_isIn rfl rfl rfl hd_X8_isIn.2 ⟨Nat.le_of_ble_eq_true rfl, Nat.le_of_ble_eq_true rfl⟩ ⟨Nat.le_of_ble_eq_true rfl, Nat.le_of_ble_eq_true rfl⟩ rfl (Nat.le_of_ble_eq_true rfl) dX8_tick_12 (fun r9 ad9 L9 f9 hp9 => ?_)
    obtain ⟨he9, hr9⟩ := hp9
    cases he9
    subst hr9
    refine g_iconst hX (2) dX8_tick_15 rfl ?_
    refine b_callI_V hX hM (b := 0) [.int (isi t 1 100), .int 2] (m_lo (by decide)) (pf_obj rfl (by decide)) rfl (k_X8_no (m_lo (by decide)) rfl (isi t 1 100) 2) gX8_tick_X8_no rfl rfl rfl hd_X8_no ⟨Nat.le_of_ble_eq_true rfl, Nat.le_of_ble_eq_true rfl⟩ ⟨Nat.le_of_ble_eq_true rfl, Nat.le_of_ble_eq_true rfl⟩ rfl (Nat.le_of_ble_eq_true rfl) dX8_tick_16 (fun r9 ad9 L9 f9 hp9 => ?_)
    obtain ⟨he9, hr9⟩ := hp9
    cases he9
    subst hr9
    refine g_if_eq (tgt := 24) hX dX8_tick_19 (by decide) (fun c_19 => ?_) (fun c_19 => ?_)
    · have c_19 := z10 c_19
      rw [show (up2 (up2 M 0 15 (if M 0 6 < 0 then 1 else 0)) 0 15 (if (isi t 1 100) = 0 then 2 else 0)) = up2 M 0 15 0 from by simp [up2_ss, c_4, c_19]]
      obtain ⟨j, hj, hp6⟩ := hpl.resolve_left c_4
      obtain ⟨m, hm, rfl⟩ := isi_1 c_19
      obtain ⟨M00, hM00⟩ : ∃ z, z = up2 M 0 15 0 := ⟨_, rfl⟩
      obtain ⟨S00, hS00⟩ : ∃ z, z = S := ⟨_, rfl⟩
      have hP00 : PI M00 S00 := by
        rw [hM00, hS00]
        exact ⟨hS, (up2_n (Or.inl (by decide))).trans hw1, (up2_n (Or.inl (by decide))).trans hw2, (up2_n (Or.inl (by decide))).trans hw3, fun v hv h7 hn => by rw [up2_row (by omega)] at h7 hn ⊢; exact hix v hv h7 hn⟩
      obtain ⟨ln, hln⟩ : ∃ z, z = lenM M00 j 200 := ⟨_, rfl⟩
      have hln2 : ln ≤ 200 := by rw [hln]; exact lenM_le M00 j 200
      have hq06 : M00 0 6 = nI j := by rw [hM00]; exact (up2_n (Or.inr (by decide))).trans hp6
      have hq07 : M00 0 7 = nI (r0 + 0) := by rw [hM00]; exact (up2_n (Or.inr (by decide))).trans hrow
      have hq016 : M00 0 16 = 0 ∨ M00 0 16 = 1 := by rw [hM00, up2_n (Or.inr (by decide))]; exact hlat
      rw [← hM00]
      refine g_iconst hX (0) dX8_tick_24 rfl ?_
      refine g_istore_n hX [(2, .int 0), (0, .ref (ad 0)), (1, .int (nI m))] rfl dX8_tick_25 rfl (by decide) ?_
      have lp_26 : ∀ (n9 : Nat) (k : Nat) (Q : Nat → Nat → Int32) (S : SZ) (a : Nat → Nat), m - k < n9 → (k ≤ m ∧ k ≤ ln - r0) → (PI Q S) → ((Q, S) = tkS M00 S00 j r0 k) → (Q 0 6 = nI j) → (Q 0 7 = nI (r0 + k)) → (Q 0 16 = 0 ∨ Q 0 16 = 1) → (j < S.1) → (lenM Q j 200 = ln) → (PC S00 ≤ PC S ∧ PS S00 ≤ PS S) → (AGm (mL S00) ad a) → (∀ i9 ∈ mL S00, i9 < 1000 ∨ 4000 ≤ i9 → i9 ∈ mL S) → GG X D a (mL S) (pf dT mK mN Q (mR S) a) [(2, .int (nI k)), (0, .ref (a 0)), (1, .int (nI m))] (k + (PC S - PC S00)) (16 * k + (PS S - PS S00)) 26 [] := by
        intro n9
        induction n9 with
        | zero => intro k Q S a h9; exact absurd h9 (Nat.not_lt_zero _)
        | succ n9 ih9 =>
          intro k Q S a h9 hk hPI hTS hq6 hq7 hql hjS hlen hpc hag hLL
          have ih_26 := ih9
          obtain ⟨hS, hw1, hw2, hw3, hix⟩ := hPI
          have hS1 := hS.1
          have hS2 := hS.2.1
          have hS3 := hS.2.2.1
          have e1 : Q = (tkS M00 S00 j r0 k).1 := congrArg Prod.fst hTS
          have e2 : S = (tkS M00 S00 j r0 k).2 := congrArg Prod.snd hTS
          refine g_iload_n hX 0 rfl dX8_tick_26 rfl ?_
          refine g_iload_n hX 2 rfl dX8_tick_27 rfl ?_
          refine g_icmp_ge (tgt := 56) hX dX8_tick_28 (by decide) (fun c_28 => ?_) (fun c_28 => ?_)
          · have c_28 : m ≤ k := (nI_leI (a := m) (b := k) (by omega) (by omega)).mp c_28
            have hK : tkN M00 m j r0 = k := by rw [tkN, ← hln]; omega
            refine g_aload_n hX 1 rfl dX8_tick_56 rfl ?_
            refine g_getI (i := 0) hX 12 7 q_inX8 (m_lo (by decide)) rfl (by decide) rfl (by decide) rfl q_w1 rfl dX8_tick_57 ?_
            refine g_eqi (y := (nI (r0 + k))) hq7 ?_
            refine g_aload_n hX 1 rfl dX8_tick_60 rfl ?_
            refine g_aload_n hX 1 rfl dX8_tick_61 rfl ?_
            refine g_getI (i := 0) hX 12 6 q_inX8 (m_lo (by decide)) rfl (by decide) rfl (by decide) rfl q_w2 rfl dX8_tick_62 ?_
            refine g_eqi (y := (nI j)) hq6 ?_
            refine b_callI_V hX hM (b := 0) [.int (nI j)] (m_lo (by decide)) (pf_obj rfl (by decide)) rfl (k_X8_lengthOf Q S hS hw1 hw2 hw3 j hjS) gX8_tick_X8_lengthOf rfl rfl rfl hd_X8_lengthOf ⟨Nat.le_of_ble_eq_true rfl, Nat.le_of_ble_eq_true rfl⟩ ⟨by have h9 := PC_le hS; show _ ≤ 420; omega, by have h9 := PC_le hS; show _ ≤ 4200; omega⟩ rfl (Nat.le_of_ble_eq_true rfl) dX8_tick_65 (fun r9 ad9 L9 f9 hp9 => ?_)
            obtain ⟨he9, hr9⟩ := hp9
            cases he9
            subst hr9
            refine g_eqi (y := nI ln) (by rw [hlen]) ?_
            refine g_icmp_ge (tgt := 73) hX dX8_tick_68 (by decide) (fun c_68 => ?_) (fun c_68 => ?_)
            · have c_68 : ln ≤ (r0 + k) := (nI_leI (a := ln) (b := (r0 + k)) (by omega) (by omega)).mp c_68
              refine g_aload_n hX 1 rfl dX8_tick_73 rfl ?_
              refine g_getRs (i := 0) hX 12 3 q_inX8 (m_lo (by decide)) rfl (by decide) rfl (by decide) rfl q_w3 rfl (j := 4) rfl dX8_tick_74 ?_
              refine g_astore_n hX [(3, .ref (a 4)), (2, .int (nI k)), (0, .ref (a 0)), (1, .int (nI m))] rfl dX8_tick_77 rfl (by decide) ?_
              refine g_aload_n hX 0 rfl dX8_tick_78 rfl ?_
              refine g_alen24 (i := 4) hX rfl (nI 12) (m_lo (by decide)) rfl rfl dX8_tick_79 ?_
              refine g_istore hX [(4, .int (nI 12)), (3, .ref (a 4)), (2, .int (nI k)), (0, .ref (a 0)), (1, .int (nI m))] rfl dX8_tick_80 (by decide) ?_
              refine g_iconst hX (0) dX8_tick_82 rfl ?_
              refine g_istore hX [(5, .int 0), (4, .int (nI 12)), (3, .ref (a 4)), (2, .int (nI k)), (0, .ref (a 0)), (1, .int (nI m))] rfl dX8_tick_83 (by decide) ?_
              have lp_85 : ∀ (n9 : Nat) (i : Nat), 12 - i < n9 → (i ≤ 12) → GG X D a (mL S) (pf dT mK mN (enV Q i) (mR S) a) [(5, .int (nI i)), (4, .int (nI 12)), (3, .ref (a 4)), (2, .int (nI k)), (0, .ref (a 0)), (1, .int (nI m))] (k + (PC S - PC S00)) (16 * k + (PS S - PS S00)) 85 [] := by
                intro n9
                induction n9 with
                | zero => intro i h9; exact absurd h9 (Nat.not_lt_zero _)
                | succ n9 ih9 =>
                  intro i h9 hi
                  have ih_85 := ih9
                  refine g_iload hX 0 rfl dX8_tick_85 ?_
                  refine g_iload hX 1 rfl dX8_tick_87 ?_
                  refine g_icmp_ge (tgt := 124) hX dX8_tick_89 (by decide) (fun c_89 => ?_) (fun c_89 => ?_)
                  · have c_89 : 12 ≤ i := (nI_leI (a := 12) (b := i) (by omega) (by omega)).mp c_89
                    have hi12 : i = 12 := by omega
                    subst hi12
                    refine g_aload_n hX 4 rfl dX8_tick_124 rfl ?_
                    refine g_iconst hX (-1) dX8_tick_125 rfl ?_
                    refine g_putI hX (i := 0) 12 6 q_inX8 (m_lo (by decide)) rfl (by decide) rfl (by decide) rfl q_w2 rfl tyX8_ok nmX8 rfl (ty := .int) (by decide +kernel) rfl rfl dX8_tick_126 ?_
                    refine g_iload_n hX 3 rfl dX8_tick_129 rfl ?_
                    refine b_iret hX hE dX8_tick_130 (by have h9 := PC_le hS; omega) (by have h9 := PC_le hS; omega) ?_
                    subst hS00
                    subst hM00
                    have hF : (up2 (enV Q 12) 0 6 (-1)) = tkF (up2 M 0 15 0) S00 m j r0 := by
                      rw [tkF, hK, ← hln, if_pos c_68, ← e1]
                    exact ⟨_, hag, Or.inl ⟨by simp [tiC, c_4, c_19], j, hj, hp6, by rw [nI_clamp (n := m) (by omega), ← hF, hK, ← e2], by rw [nI_clamp (n := m) (by omega), hK]⟩⟩
                  · have c_89 : ¬ 12 ≤ i := fun h9 => c_89 ((nI_leI (a := 12) (b := i) (by omega) (by omega)).mpr h9)
                    refine g_aload_n hX 2 rfl dX8_tick_92 rfl ?_
                    refine g_iload hX 0 rfl dX8_tick_93 ?_
                    refine h_aald24 (i := 4) hX i rfl (by show _ < (12 : Nat); omega) (by decide) (j := (20 + i)) (mR_v (by omega)) (m_lo (by decide)) rfl dX8_tick_95 ?_
                    refine g_astore hX [(6, .ref (a (20 + i))), (5, .int (nI i)), (4, .int (nI 12)), (3, .ref (a 4)), (2, .int (nI k)), (0, .ref (a 0)), (1, .int (nI m))] rfl dX8_tick_96 (by decide) ?_
                    refine g_aload hX 0 rfl dX8_tick_98 ?_
                    refine g_iconst hX (0) dX8_tick_100 rfl ?_
                    refine g_putI hX (i := (20 + i)) 11 9 q_inX7 (m_v (by omega)) (mK_v (by omega)) (by decide) rfl (by decide) rfl q_w4 rfl tyX7_ok nmX7 rfl (ty := .boolean) (by decide +kernel) rfl rfl dX8_tick_101 ?_
                    refine g_aload hX 0 rfl dX8_tick_104 ?_
                    refine g_getI (i := (20 + i)) hX 11 7 q_inX7 (m_v (by omega)) (mK_v (by omega)) (by decide) rfl (by decide) rfl q_w5 rfl dX8_tick_106 ?_
                    refine g_eqi (y := ((enV Q i) (20 + i) 7)) (up2_n (Or.inr (by decide))) ?_
                    refine g_if_eq (tgt := 118) hX dX8_tick_109 (by decide) (fun c_109 => ?_) (fun c_109 => ?_)
                    · refine g_iinc hX (nI (i + 1)) [(5, .int (nI (i + 1))), (6, .ref (a (20 + i))), (4, .int (nI 12)), (3, .ref (a 4)), (2, .int (nI k)), (0, .ref (a 0)), (1, .int (nI m))] (k := 1) rfl (g_inc i) rfl dX8_tick_118 (by decide) ?_
                      refine g_goto (tgt := 85) hX dX8_tick_121 (by decide) ?_
                      rw [show (up2 (enV Q i) (20 + i) 9 0) = (enV Q (i + 1)) from by rw [enV, if_pos c_109]]
                      skip
                      refine g_lv [0, 2, 3, 4, 5, 6] rfl ?_
                      exact ih_85 (i + 1) (by omega) (by omega)
                    · refine g_aload_n hX 5 rfl dX8_tick_112 rfl ?_
                      refine g_aload hX 0 rfl dX8_tick_113 ?_
                      refine b_callV_V hX hM (b := 0) [.ref (a (20 + i))] (m_lo (by decide)) (pf_obj rfl (by decide)) rfl (k_X8_ends (up2 (enV Q i) (20 + i) 9 0) S hS ((up2_n (Or.inl (by omega))).trans ((congrFun (enV_n (a := 1) (by omega) i (by omega)) 2).trans hw1)) ((up2_n (Or.inl (by omega))).trans ((congrFun (enV_n (a := 2) (by omega) i (by omega)) 2).trans hw2)) ((up2_n (Or.inl (by omega))).trans ((congrFun (enV_n (a := 3) (by omega) i (by omega)) 2).trans hw3)) (fun _ h => h) (fun _ _ => rfl) i (by omega) (by rw [up2_n (Or.inr (by decide)), enV_8 (by omega) (by decide) (by decide) i (by omega)]; exact hix i (by omega) (fun e9 => c_109 (by rw [enV_7 i (Nat.le_refl _) (by omega)]; exact e9)))) gX8_tick_X8_ends rfl rfl rfl hd_X8_ends ⟨Nat.le_of_ble_eq_true rfl, Nat.le_of_ble_eq_true rfl⟩ ⟨by have h9 := PC_le hS; show _ ≤ 420; omega, by have h9 := PC_le hS; show _ ≤ 4200; omega⟩ rfl (Nat.le_of_ble_eq_true rfl) dX8_tick_115 (fun ad9 L9 f9 hp9 => ?_)
                      cases hp9
                      refine g_iinc hX (nI (i + 1)) [(5, .int (nI (i + 1))), (6, .ref (a (20 + i))), (4, .int (nI 12)), (3, .ref (a 4)), (2, .int (nI k)), (0, .ref (a 0)), (1, .int (nI m))] (k := 1) rfl (g_inc i) rfl dX8_tick_118 (by decide) ?_
                      refine g_goto (tgt := 85) hX dX8_tick_121 (by decide) ?_
                      rw [show (endI (up2 (enV Q i) (20 + i) 9 0) i) = (enV Q (i + 1)) from by rw [enV, if_neg c_109]]
                      skip
                      refine g_lv [0, 2, 3, 4, 5, 6] rfl ?_
                      exact ih_85 (i + 1) (by omega) (by omega)
              refine g_lv [0, 1, 2, 3, 4, 5] rfl ?_
              exact lp_85 _ 0 (Nat.lt_succ_self _) (Nat.zero_le _)
            · have c_68 : ¬ ln ≤ (r0 + k) := fun h9 => c_68 ((nI_leI (a := ln) (b := (r0 + k)) (by omega) (by omega)).mpr h9)
              refine g_iload_n hX 0 rfl dX8_tick_71 rfl ?_
              refine b_iret hX hE dX8_tick_72 (by have h9 := PC_le hS; omega) (by have h9 := PC_le hS; omega) ?_
              subst hS00
              subst hM00
              have hF : Q = tkF (up2 M 0 15 0) S00 m j r0 := by
                rw [tkF, hK, ← hln, if_neg c_68, ← e1]
              exact ⟨_, hag, Or.inl ⟨by simp [tiC, c_4, c_19], j, hj, hp6, by rw [nI_clamp (n := m) (by omega), ← hF, hK, ← e2], by rw [nI_clamp (n := m) (by omega), hK]⟩⟩
          · have c_28 : ¬ m ≤ k := fun h9 => c_28 ((nI_leI (a := m) (b := k) (by omega) (by omega)).mpr h9)
            refine g_aload_n hX 1 rfl dX8_tick_31 rfl ?_
            refine g_getI (i := 0) hX 12 7 q_inX8 (m_lo (by decide)) rfl (by decide) rfl (by decide) rfl q_w1 rfl dX8_tick_32 ?_
            refine g_eqi (y := (nI (r0 + k))) hq7 ?_
            refine g_aload_n hX 1 rfl dX8_tick_35 rfl ?_
            refine g_aload_n hX 1 rfl dX8_tick_36 rfl ?_
            refine g_getI (i := 0) hX 12 6 q_inX8 (m_lo (by decide)) rfl (by decide) rfl (by decide) rfl q_w2 rfl dX8_tick_37 ?_
            refine g_eqi (y := (nI j)) hq6 ?_
            refine b_callI_V hX hM (b := 0) [.int (nI j)] (m_lo (by decide)) (pf_obj rfl (by decide)) rfl (k_X8_lengthOf Q S hS hw1 hw2 hw3 j hjS) gX8_tick_X8_lengthOf rfl rfl rfl hd_X8_lengthOf ⟨Nat.le_of_ble_eq_true rfl, Nat.le_of_ble_eq_true rfl⟩ ⟨by have h9 := PC_le hS; show _ ≤ 420; omega, by have h9 := PC_le hS; show _ ≤ 4200; omega⟩ rfl (Nat.le_of_ble_eq_true rfl) dX8_tick_40 (fun r9 ad9 L9 f9 hp9 => ?_)
            obtain ⟨he9, hr9⟩ := hp9
            cases he9
            subst hr9
            refine g_eqi (y := nI ln) (by rw [hlen]) ?_
            refine g_icmp_ge (tgt := 56) hX dX8_tick_43 (by decide) (fun c_43 => ?_) (fun c_43 => ?_)
            · have c_43 : ln ≤ (r0 + k) := (nI_leI (a := ln) (b := (r0 + k)) (by omega) (by omega)).mp c_43
              have hK : tkN M00 m j r0 = k := by rw [tkN, ← hln]; omega
              refine g_aload_n hX 1 rfl dX8_tick_56 rfl ?_
              refine g_getI (i := 0) hX 12 7 q_inX8 (m_lo (by decide)) rfl (by decide) rfl (by decide) rfl q_w1 rfl dX8_tick_57 ?_
              refine g_eqi (y := (nI (r0 + k))) hq7 ?_
              refine g_aload_n hX 1 rfl dX8_tick_60 rfl ?_
              refine g_aload_n hX 1 rfl dX8_tick_61 rfl ?_
              refine g_getI (i := 0) hX 12 6 q_inX8 (m_lo (by decide)) rfl (by decide) rfl (by decide) rfl q_w2 rfl dX8_tick_62 ?_
              refine g_eqi (y := (nI j)) hq6 ?_
              refine b_callI_V hX hM (b := 0) [.int (nI j)] (m_lo (by decide)) (pf_obj rfl (by decide)) rfl (k_X8_lengthOf Q S hS hw1 hw2 hw3 j hjS) gX8_tick_X8_lengthOf rfl rfl rfl hd_X8_lengthOf ⟨Nat.le_of_ble_eq_true rfl, Nat.le_of_ble_eq_true rfl⟩ ⟨by have h9 := PC_le hS; show _ ≤ 420; omega, by have h9 := PC_le hS; show _ ≤ 4200; omega⟩ rfl (Nat.le_of_ble_eq_true rfl) dX8_tick_65 (fun r9 ad9 L9 f9 hp9 => ?_)
              obtain ⟨he9, hr9⟩ := hp9
              cases he9
              subst hr9
              refine g_eqi (y := nI ln) (by rw [hlen]) ?_
              refine g_icmp_ge (tgt := 73) hX dX8_tick_68 (by decide) (fun c_68 => ?_) (fun c_68 => ?_)
              · have c_68 : ln ≤ (r0 + k) := (nI_leI (a := ln) (b := (r0 + k)) (by omega) (by omega)).mp c_68
                refine g_aload_n hX 1 rfl dX8_tick_73 rfl ?_
                refine g_getRs (i := 0) hX 12 3 q_inX8 (m_lo (by decide)) rfl (by decide) rfl (by decide) rfl q_w3 rfl (j := 4) rfl dX8_tick_74 ?_
                refine g_astore_n hX [(3, .ref (a 4)), (2, .int (nI k)), (0, .ref (a 0)), (1, .int (nI m))] rfl dX8_tick_77 rfl (by decide) ?_
                refine g_aload_n hX 0 rfl dX8_tick_78 rfl ?_
                refine g_alen24 (i := 4) hX rfl (nI 12) (m_lo (by decide)) rfl rfl dX8_tick_79 ?_
                refine g_istore hX [(4, .int (nI 12)), (3, .ref (a 4)), (2, .int (nI k)), (0, .ref (a 0)), (1, .int (nI m))] rfl dX8_tick_80 (by decide) ?_
                refine g_iconst hX (0) dX8_tick_82 rfl ?_
                refine g_istore hX [(5, .int 0), (4, .int (nI 12)), (3, .ref (a 4)), (2, .int (nI k)), (0, .ref (a 0)), (1, .int (nI m))] rfl dX8_tick_83 (by decide) ?_
                have lp_85 : ∀ (n9 : Nat) (i : Nat), 12 - i < n9 → (i ≤ 12) → GG X D a (mL S) (pf dT mK mN (enV Q i) (mR S) a) [(5, .int (nI i)), (4, .int (nI 12)), (3, .ref (a 4)), (2, .int (nI k)), (0, .ref (a 0)), (1, .int (nI m))] (k + (PC S - PC S00)) (16 * k + (PS S - PS S00)) 85 [] := by
                  intro n9
                  induction n9 with
                  | zero => intro i h9; exact absurd h9 (Nat.not_lt_zero _)
                  | succ n9 ih9 =>
                    intro i h9 hi
                    have ih_85 := ih9
                    refine g_iload hX 0 rfl dX8_tick_85 ?_
                    refine g_iload hX 1 rfl dX8_tick_87 ?_
                    refine g_icmp_ge (tgt := 124) hX dX8_tick_89 (by decide) (fun c_89 => ?_) (fun c_89 => ?_)
                    · have c_89 : 12 ≤ i := (nI_leI (a := 12) (b := i) (by omega) (by omega)).mp c_89
                      have hi12 : i = 12 := by omega
                      subst hi12
                      refine g_aload_n hX 4 rfl dX8_tick_124 rfl ?_
                      refine g_iconst hX (-1) dX8_tick_125 rfl ?_
                      refine g_putI hX (i := 0) 12 6 q_inX8 (m_lo (by decide)) rfl (by decide) rfl (by decide) rfl q_w2 rfl tyX8_ok nmX8 rfl (ty := .int) (by decide +kernel) rfl rfl dX8_tick_126 ?_
                      refine g_iload_n hX 3 rfl dX8_tick_129 rfl ?_
                      refine b_iret hX hE dX8_tick_130 (by have h9 := PC_le hS; omega) (by have h9 := PC_le hS; omega) ?_
                      subst hS00
                      subst hM00
                      have hF : (up2 (enV Q 12) 0 6 (-1)) = tkF (up2 M 0 15 0) S00 m j r0 := by
                        rw [tkF, hK, ← hln, if_pos c_68, ← e1]
                      exact ⟨_, hag, Or.inl ⟨by simp [tiC, c_4, c_19], j, hj, hp6, by rw [nI_clamp (n := m) (by omega), ← hF, hK, ← e2], by rw [nI_clamp (n := m) (by omega), hK]⟩⟩
                    · have c_89 : ¬ 12 ≤ i := fun h9 => c_89 ((nI_leI (a := 12) (b := i) (by omega) (by omega)).mpr h9)
                      refine g_aload_n hX 2 rfl dX8_tick_92 rfl ?_
                      refine g_iload hX 0 rfl dX8_tick_93 ?_
                      refine h_aald24 (i := 4) hX i rfl (by show _ < (12 : Nat); omega) (by decide) (j := (20 + i)) (mR_v (by omega)) (m_lo (by decide)) rfl dX8_tick_95 ?_
                      refine g_astore hX [(6, .ref (a (20 + i))), (5, .int (nI i)), (4, .int (nI 12)), (3, .ref (a 4)), (2, .int (nI k)), (0, .ref (a 0)), (1, .int (nI m))] rfl dX8_tick_96 (by decide) ?_
                      refine g_aload hX 0 rfl dX8_tick_98 ?_
                      refine g_iconst hX (0) dX8_tick_100 rfl ?_
                      refine g_putI hX (i := (20 + i)) 11 9 q_inX7 (m_v (by omega)) (mK_v (by omega)) (by decide) rfl (by decide) rfl q_w4 rfl tyX7_ok nmX7 rfl (ty := .boolean) (by decide +kernel) rfl rfl dX8_tick_101 ?_
                      refine g_aload hX 0 rfl dX8_tick_104 ?_
                      refine g_getI (i := (20 + i)) hX 11 7 q_inX7 (m_v (by omega)) (mK_v (by omega)) (by decide) rfl (by decide) rfl q_w5 rfl dX8_tick_106 ?_
                      refine g_eqi (y := ((enV Q i) (20 + i) 7)) (up2_n (Or.inr (by decide))) ?_
                      refine g_if_eq (tgt := 118) hX dX8_tick_109 (by decide) (fun c_109 => ?_) (fun c_109 => ?_)
                      · refine g_iinc hX (nI (i + 1)) [(5, .int (nI (i + 1))), (6, .ref (a (20 + i))), (4, .int (nI 12)), (3, .ref (a 4)), (2, .int (nI k)), (0, .ref (a 0)), (1, .int (nI m))] (k := 1) rfl (g_inc i) rfl dX8_tick_118 (by decide) ?_
                        refine g_goto (tgt := 85) hX dX8_tick_121 (by decide) ?_
                        rw [show (up2 (enV Q i) (20 + i) 9 0) = (enV Q (i + 1)) from by rw [enV, if_pos c_109]]
                        skip
                        refine g_lv [0, 2, 3, 4, 5, 6] rfl ?_
                        exact ih_85 (i + 1) (by omega) (by omega)
                      · refine g_aload_n hX 5 rfl dX8_tick_112 rfl ?_
                        refine g_aload hX 0 rfl dX8_tick_113 ?_
                        refine b_callV_V hX hM (b := 0) [.ref (a (20 + i))] (m_lo (by decide)) (pf_obj rfl (by decide)) rfl (k_X8_ends (up2 (enV Q i) (20 + i) 9 0) S hS ((up2_n (Or.inl (by omega))).trans ((congrFun (enV_n (a := 1) (by omega) i (by omega)) 2).trans hw1)) ((up2_n (Or.inl (by omega))).trans ((congrFun (enV_n (a := 2) (by omega) i (by omega)) 2).trans hw2)) ((up2_n (Or.inl (by omega))).trans ((congrFun (enV_n (a := 3) (by omega) i (by omega)) 2).trans hw3)) (fun _ h => h) (fun _ _ => rfl) i (by omega) (by rw [up2_n (Or.inr (by decide)), enV_8 (by omega) (by decide) (by decide) i (by omega)]; exact hix i (by omega) (fun e9 => c_109 (by rw [enV_7 i (Nat.le_refl _) (by omega)]; exact e9)))) gX8_tick_X8_ends rfl rfl rfl hd_X8_ends ⟨Nat.le_of_ble_eq_true rfl, Nat.le_of_ble_eq_true rfl⟩ ⟨by have h9 := PC_le hS; show _ ≤ 420; omega, by have h9 := PC_le hS; show _ ≤ 4200; omega⟩ rfl (Nat.le_of_ble_eq_true rfl) dX8_tick_115 (fun ad9 L9 f9 hp9 => ?_)
                        cases hp9
                        refine g_iinc hX (nI (i + 1)) [(5, .int (nI (i + 1))), (6, .ref (a (20 + i))), (4, .int (nI 12)), (3, .ref (a 4)), (2, .int (nI k)), (0, .ref (a 0)), (1, .int (nI m))] (k := 1) rfl (g_inc i) rfl dX8_tick_118 (by decide) ?_
                        refine g_goto (tgt := 85) hX dX8_tick_121 (by decide) ?_
                        rw [show (endI (up2 (enV Q i) (20 + i) 9 0) i) = (enV Q (i + 1)) from by rw [enV, if_neg c_109]]
                        skip
                        refine g_lv [0, 2, 3, 4, 5, 6] rfl ?_
                        exact ih_85 (i + 1) (by omega) (by omega)
                refine g_lv [0, 1, 2, 3, 4, 5] rfl ?_
                exact lp_85 _ 0 (Nat.lt_succ_self _) (Nat.zero_le _)
              · have c_68 : ¬ ln ≤ (r0 + k) := fun h9 => c_68 ((nI_leI (a := ln) (b := (r0 + k)) (by omega) (by omega)).mpr h9)
                exact absurd c_43 c_68
            · have c_43 : ¬ ln ≤ (r0 + k) := fun h9 => c_43 ((nI_leI (a := ln) (b := (r0 + k)) (by omega) (by omega)).mpr h9)
              refine g_aload_n hX 1 rfl dX8_tick_46 rfl ?_
              have hZ := PI_py (M := Q) (S := S) (j := j) (r := r0 + k) ⟨hS, hw1, hw2, hw3, hix⟩
              have hZC := pyZ_PC (M := Q) (S := S) (j := j) (r := r0 + k) ⟨hS, hw1, hw2, hw3, hix⟩
              have hZL := PC_le hZ.1
              refine b_callV_V hX hM (b := 0) [] (m_lo (by decide)) (pf_obj rfl (by decide)) rfl (k_X8_plays Q S hS hw1 hw2 hw3 (AGm_z hag hz) hix hql j hjS (r0 + k) (by omega) hq6 hq7 (1 + (PC (pyZ Q S j (r0 + k)) - PC S)) (16 + (PS (pyZ Q S j (r0 + k)) - PS S)) (Nat.le_refl _) (Nat.le_refl _)) gX8_tick_X8_plays rfl rfl rfl hd_X8_plays ⟨Nat.le_of_ble_eq_true rfl, Nat.le_of_ble_eq_true rfl⟩ ⟨by show _ ≤ 420; omega, by show _ ≤ 4200; omega⟩ rfl (Nat.le_of_ble_eq_true rfl) dX8_tick_47 (fun a1 L9 f9 hp9 => ?_)
              obtain ⟨x9, ga1, he9⟩ := hp9
              cases he9
              have aga1 : AGm (mL S00) ad a1 := fun i9 hi9 h6 h1 => (ga1 i9 (hi9.elim (fun w9 => Or.inl (hLL i9 w9 h1)) Or.inr) h6 h1).trans (hag i9 hi9 h6 h1)
              refine g_lvs (lv2 := [(2, .int (nI k)), (0, .ref (a1 0)), (1, .int (nI m))]) (st2 := []) (by rw [ga1 0 (Or.inl (m_lo (by decide))) (by omega) (Or.inl (by omega))]) rfl ?_
              refine g_iinc hX (nI (k + 1)) [(2, .int (nI (k + 1))), (0, .ref (a1 0)), (1, .int (nI m))] (k := 0) rfl (g_inc k) rfl dX8_tick_50 (by decide) ?_
              refine g_goto (tgt := 26) hX dX8_tick_53 (by decide) ?_
              refine g_widen (k := (k + 1) + (PC (pyZ Q S j (r0 + k)) - PC S00)) (n := 16 * (k + 1) + (PS (pyZ Q S j (r0 + k)) - PS S00)) (by omega) (by omega) ?_
              skip
              refine g_lv [0, 1, 2] rfl ?_
              exact ih_26 (k + 1) (pyM Q S j (r0 + k)) (pyZ Q S j (r0 + k)) a1 (by omega) (by omega) hZ (by rw [tkS_s, ← e1, ← e2]) (pyM_6.trans hq6) (pyM_7.trans (by rw [hq7, nI_1]; rfl)) (pyM_16 hql) (by rw [pyZ_1]; exact hjS) ((lenM_ext 200 (fun r hr => pyM_row (by omega) (by omega))).trans hlen) (by omega) (aga1) (fun i9 h9 h8 => pyZ_mem ⟨hS, hw1, hw2, hw3, hix⟩ (hLL i9 h9 h8) h8)
      refine g_lv [0, 1, 2] rfl ?_
      refine g_widen (k := 0 + (PC S - PC S00)) (n := 16 * 0 + (PS S - PS S00)) (by omega) (by omega) ?_
      exact lp_26 _ 0 M00 S ad (Nat.lt_succ_self _) (⟨Nat.zero_le _, Nat.zero_le _⟩) (hS00 ▸ hP00) (by rw [hS00]; rfl) hq06 hq07 hq016 hj (hln.symm) (by rw [hS00]; exact ⟨Nat.le_refl _, Nat.le_refl _⟩) (AGm_rf) (fun i9 h9 _ => hS00 ▸ h9)
    · have c_19 := z11 c_19
      refine g_iconst hX (0) dX8_tick_22 rfl ?_
      refine b_iret hX hE dX8_tick_23 (by omega) (by omega) ?_
      exact ⟨_, AGm_rf, Or.inr ⟨by simp [tiC, c_4, c_19], congrArg (fun z => (ad, mL S, mf dT ad z S)) (by simp [up2_ss, tiC, c_4, c_19])⟩⟩
