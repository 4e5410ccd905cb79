abbrev rm_X6_borrow : Room := { frames := 7, cells := 3, slots := 18, locals := 103 }
theorem hd_X6_borrow : yX6_borrow.cls = RX6 ∧ yX6_borrow.cls ≠ "java/lang/invoke/MethodHandle" ∧ yX6_borrow.cls ≠ "java/lang/invoke/VarHandle" ∧ (parseMethodDescriptor yX6_borrow.desc).map (fun d => d.parameters.length) = some 2 := by decide +kernel
set_option maxRecDepth 100000 in
set_option maxHeartbeats 4000000 in
theorem k_X6_borrow {D : va_G} {dT : Nat → ClassId} {ad : Nat → Nat} (I : Nat → Nat → Int32) (n o : Int32) : KTI yX6_borrow wsX6_borrow rm_X6_borrow D dT ad I [.ref (ad 0), .int n, .int o] 3 18 (fun q9 J => kbo I n o = 0 ∧ up2 I (24 + n.toNatClampNeg) 3 o = J ∧ I (24 + n.toNatClampNeg) 3 = q9) (fun E => (E = xIO ∧ (kbo I n o) = 1) ∨ (E = xUO ∧ (kbo I n o) = 2)) := by
  intro l9 hl9
  refine ti_of hl9 (own := RX6) (cc := cX6_borrow) (maxL := 6) (some .int) [(0, .ref (ad 0)), (1, .int n), (2, .int o)] (by decide) rfl rfl rfl (Nat.le_of_ble_eq_true rfl) ?_
  intro X hX hE hN
  have hQ := FI.x hE
  have q_w3 : Cond.fieldLink RX6 175 "Perforatum$Valve" "lender" "I" ∈ wsX6_borrow := List.mem_of_getElem? (i := 3) rfl
  have q_inX5 : ∀ w ∈ wsX50, w ∈ wsX6_borrow := by decide +kernel
  have q_w1 : Cond.classLink RX6 111 "java/lang/UnsupportedOperationException" ∈ wsX6_borrow := List.mem_of_getElem? (i := 1) rfl
  have q_w2 : Cond.initialized "java/lang/UnsupportedOperationException" ∈ wsX6_borrow := List.mem_of_getElem? (i := 2) rfl
  have q_hat115 : ∀ w ∈ (vx_atS RX6 115 "java/lang/UnsupportedOperationException" ["java/lang/RuntimeException", "java/lang/Exception"]).filter goodWord, w ∈ wsX6_borrow := by decide +kernel
  refine g_aload_n hX 0 rfl dX6_borrow_0 rfl ?_
  refine g_iload_n hX 1 rfl dX6_borrow_1 rfl ?_
  refine ct_callQ_V hX hQ [.int n] 10 (by decide) rfl (by decide) rfl (k_X6_demandValve I n) gX6_borrow_X6_demandValve rfl rfl rfl hd_X6_demandValve ⟨Nat.le_of_ble_eq_true rfl, Nat.le_of_ble_eq_true rfl⟩ ⟨Nat.le_of_ble_eq_true rfl, Nat.le_of_ble_eq_true rfl⟩ (Nat.le_of_ble_eq_true rfl) (Nat.le_of_ble_eq_true rfl) (fun E h9 => by obtain ⟨rfl, h9⟩ := h9; exact ⟨rfl, by simp [kbo, h9]⟩) rfl (Nat.le_of_ble_eq_true rfl) dX6_borrow_2 (fun r_2 J_2 h_2 => ?_)
  obtain ⟨rfl, rfl, hi_2, vk_2⟩ := h_2
  refine g_stk (st2 := .ref (ad (24 + n.toNatClampNeg)) :: []) rfl ?_
  refine g_astore_n hX [(3, .ref (ad (24 + n.toNatClampNeg))), (0, .ref (ad 0)), (1, .int n), (2, .int o)] rfl dX6_borrow_5 rfl (by decide) ?_
  refine g_aload_n hX 1 rfl dX6_borrow_6 rfl ?_
  refine g_iload_n hX 3 rfl dX6_borrow_7 rfl ?_
  refine ct_callQ_V hX hQ [.int o] 10 (by decide) rfl (by decide) rfl (k_X6_demandValve I o) gX6_borrow_X6_demandValve rfl rfl rfl hd_X6_demandValve ⟨Nat.le_of_ble_eq_true rfl, Nat.le_of_ble_eq_true rfl⟩ ⟨Nat.le_of_ble_eq_true rfl, Nat.le_of_ble_eq_true rfl⟩ (Nat.le_of_ble_eq_true rfl) (Nat.le_of_ble_eq_true rfl) (fun E h9 => by obtain ⟨rfl, h9⟩ := h9; exact ⟨rfl, by simp [kbo, h9, vk_2]⟩) rfl (Nat.le_of_ble_eq_true rfl) dX6_borrow_8 (fun r_8 J_8 h_8 => ?_)
  obtain ⟨rfl, rfl, hi_8, vk_8⟩ := h_8
  refine g_stk (st2 := .ref (ad (24 + o.toNatClampNeg)) :: []) rfl ?_
  refine g_astore hX [(4, .ref (ad (24 + o.toNatClampNeg))), (3, .ref (ad (24 + n.toNatClampNeg))), (0, .ref (ad 0)), (1, .int n), (2, .int o)] rfl dX6_borrow_11 (by decide) ?_
  refine g_iload_n hX 4 rfl dX6_borrow_13 rfl ?_
  refine g_iload_n hX 3 rfl dX6_borrow_14 rfl ?_
  refine g_icmp_eq (tgt := 45) hX dX6_borrow_15 (by decide) (fun c_15 => ?_) (fun c_15 => ?_)
  · refine g_aload_n hX 1 rfl dX6_borrow_45 rfl ?_
    refine cg_X5_lender hX (by omega) (cK_v hi_2) q_inX5 q_w3 dX6_borrow_46 ?_
    refine g_istore hX [(5, .int (I (24 + n.toNatClampNeg) 3)), (4, .ref (ad (24 + o.toNatClampNeg))), (3, .ref (ad (24 + n.toNatClampNeg))), (0, .ref (ad 0)), (1, .int n), (2, .int o)] rfl dX6_borrow_49 (by decide) ?_
    refine g_aload_n hX 2 rfl dX6_borrow_51 rfl ?_
    refine g_iload_n hX 5 rfl dX6_borrow_52 rfl ?_
    refine cp_X5_lender hX (by omega) (cK_v hi_2) q_inX5 q_w3 dX6_borrow_53 ?_
    refine g_iload hX 0 rfl dX6_borrow_56 ?_
    refine t_iret hX hE dX6_borrow_58 (Nat.le_of_ble_eq_true rfl) (Nat.le_of_ble_eq_true rfl) ?_
    exact ⟨_, rfl, by simp only [kbo, c_15, vk_2, vk_8, i10, if_true, if_false], rfl, rfl⟩
  · refine g_aload hX 0 rfl dX6_borrow_18 ?_
    refine cg_X5_lender hX (by omega) (cK_v hi_8) q_inX5 q_w3 dX6_borrow_20 ?_
    refine g_iload_n hX 4 rfl dX6_borrow_23 rfl ?_
    refine g_icmp_ne (tgt := 35) hX dX6_borrow_24 (by decide) (fun c_24 => ?_) (fun c_24 => ?_)
    · refine t_throwS hX hQ (text := "borrowed notes make no chains") "java/lang/UnsupportedOperationException" rfl (by decide +kernel) q_w1 q_w2 (by decide) q_hat115 hat_115 hgd_115 dX6_borrow_35 dX6_borrow_38 dX6_borrow_39 dX6_borrow_41 dX6_borrow_44 (Nat.le_of_ble_eq_true rfl) (Nat.le_of_ble_eq_true rfl) (Nat.le_of_ble_eq_true rfl) (Nat.le_of_ble_eq_true rfl) (Nat.le_of_ble_eq_true rfl) (Nat.le_of_ble_eq_true rfl) ?_
      refine ⟨rfl, ?_⟩
      exact Or.inr ⟨rfl, by simp only [kbo, c_15, c_24, vk_2, vk_8, i10, if_true, if_false]⟩
    · refine g_aload_n hX 2 rfl dX6_borrow_27 rfl ?_
      refine g_iload_n hX 3 rfl dX6_borrow_28 rfl ?_
      refine c_callI_V hX [.int n] 10 (by decide) rfl (by decide) rfl (k_X6_isLentToAnother I n) gX6_borrow_X6_isLentToAnother rfl rfl rfl hd_X6_isLentToAnother ⟨Nat.le_of_ble_eq_true rfl, Nat.le_of_ble_eq_true rfl⟩ ⟨Nat.le_of_ble_eq_true rfl, Nat.le_of_ble_eq_true rfl⟩ rfl (Nat.le_of_ble_eq_true rfl) dX6_borrow_29 (fun r_29 J_29 h_29 => ?_)
      obtain ⟨rfl, rfl⟩ := h_29
      refine g_if_eq (tgt := 45) hX dX6_borrow_32 (by decide) (fun c_32 => ?_) (fun c_32 => ?_)
      · refine g_aload_n hX 1 rfl dX6_borrow_45 rfl ?_
        refine cg_X5_lender hX (by omega) (cK_v hi_2) q_inX5 q_w3 dX6_borrow_46 ?_
        refine g_istore hX [(5, .int (I (24 + n.toNatClampNeg) 3)), (4, .ref (ad (24 + o.toNatClampNeg))), (3, .ref (ad (24 + n.toNatClampNeg))), (0, .ref (ad 0)), (1, .int n), (2, .int o)] rfl dX6_borrow_49 (by decide) ?_
        refine g_aload_n hX 2 rfl dX6_borrow_51 rfl ?_
        refine g_iload_n hX 5 rfl dX6_borrow_52 rfl ?_
        refine cp_X5_lender hX (by omega) (cK_v hi_2) q_inX5 q_w3 dX6_borrow_53 ?_
        refine g_iload hX 0 rfl dX6_borrow_56 ?_
        refine t_iret hX hE dX6_borrow_58 (Nat.le_of_ble_eq_true rfl) (Nat.le_of_ble_eq_true rfl) ?_
        exact ⟨_, rfl, by simp only [kbo, c_15, c_24, c_32, vk_2, vk_8, i10, if_true, if_false], rfl, rfl⟩
      · refine t_throwS hX hQ (text := "borrowed notes make no chains") "java/lang/UnsupportedOperationException" rfl (by decide +kernel) q_w1 q_w2 (by decide) q_hat115 hat_115 hgd_115 dX6_borrow_35 dX6_borrow_38 dX6_borrow_39 dX6_borrow_41 dX6_borrow_44 (Nat.le_of_ble_eq_true rfl) (Nat.le_of_ble_eq_true rfl) (Nat.le_of_ble_eq_true rfl) (Nat.le_of_ble_eq_true rfl) (Nat.le_of_ble_eq_true rfl) (Nat.le_of_ble_eq_true rfl) ?_
        refine ⟨rfl, ?_⟩
        exact Or.inr ⟨rfl, by simp only [kbo, c_15, c_24, c_32, vk_2, vk_8, i10, if_true, if_false]⟩
abbrev rm_X6_set : Room := { frames := 7, cells := 1, slots := 6, locals := 104 }
theorem hd_X6_set : yX6_set.cls = RX6 ∧ yX6_set.cls ≠ "java/lang/invoke/MethodHandle" ∧ yX6_set.cls ≠ "java/lang/invoke/VarHandle" ∧ (parseMethodDescriptor yX6_set.desc).map (fun d => d.parameters.length) = some 2 := by decide +kernel
set_option maxRecDepth 100000 in
set_option maxHeartbeats 4000000 in
theorem k_X6_set {D : va_G} {dT : Nat → ClassId} {ad : Nat → Nat} (I : Nat → Nat → Int32) (w n : Int32) : KTI yX6_set wsX6_set rm_X6_set D dT ad I [.ref (ad 0), .int w, .int n] 1 6 (fun q9 J => kse w n = 0 ∧ exI I w n = J ∧ exR I w = q9) (fun E => (E = xIA ∧ (kse w n) = 1)) := by
  intro l9 hl9
  refine ti_of hl9 (own := RX6) (cc := cX6_set) (maxL := 4) (some .int) [(0, .ref (ad 0)), (1, .int w), (2, .int n)] (by decide) rfl rfl rfl (Nat.le_of_ble_eq_true rfl) ?_
  intro X hX hE hN
  have hQ := FI.x hE
  have q_w3 : Cond.fieldLink RX6 33 "Perforatum" "settings" "LPerforatum$Settings;" ∈ wsX6_set := List.mem_of_getElem? (i := 3) rfl
  have q_inX6 : ∀ w ∈ wsX60, w ∈ wsX6_set := by decide +kernel
  have q_w1 : Cond.classLink RX6 142 "java/lang/IllegalArgumentException" ∈ wsX6_set := List.mem_of_getElem? (i := 1) rfl
  have q_w2 : Cond.initialized "java/lang/IllegalArgumentException" ∈ wsX6_set := List.mem_of_getElem? (i := 2) rfl
  have q_hat146 : ∀ w ∈ (vx_atS RX6 146 "java/lang/IllegalArgumentException" ["java/lang/RuntimeException", "java/lang/Exception"]).filter goodWord, w ∈ wsX6_set := by decide +kernel
  refine g_aload_n hX 0 rfl dX6_set_0 rfl ?_
  refine cg_X6_settings hX (by decide) rfl q_inX6 q_w3 rfl dX6_set_1 ?_
  refine g_iload_n hX 1 rfl dX6_set_4 rfl ?_
  refine c_callI_V hX [.int w] 7 (by decide) rfl (by decide) rfl (k_X3_findMost I w) gX6_set_X3_findMost rfl rfl rfl hd_X3_findMost ⟨Nat.le_of_ble_eq_true rfl, Nat.le_of_ble_eq_true rfl⟩ ⟨Nat.zero_le _, Nat.zero_le _⟩ rfl (Nat.le_of_ble_eq_true rfl) dX6_set_5 (fun r_5 J_5 h_5 => ?_)
  obtain ⟨rfl, rfl⟩ := h_5
  refine g_istore_n hX [(3, .int (fmo w)), (0, .ref (ad 0)), (1, .int w), (2, .int n)] rfl dX6_set_8 rfl (by decide) ?_
  refine g_iload_n hX 0 rfl dX6_set_9 rfl ?_
  refine g_if_ge (tgt := 23) hX dX6_set_10 (by decide) (fun c_10 => ?_) (fun c_10 => ?_)
  · refine g_iload_n hX 3 rfl dX6_set_23 rfl ?_
    refine g_iconst hX (0) dX6_set_24 rfl ?_
    refine g_iload_n hX 0 rfl dX6_set_25 rfl ?_
    refine ct_callV_S hX hQ [.int n, .int 0, .int (fmo w)] (k_X6_demandWithin I n 0 (fmo w)) gX6_set_X6_demandWithin rfl rfl rfl hd_X6_demandWithin.2 ⟨Nat.le_of_ble_eq_true rfl, Nat.le_of_ble_eq_true rfl⟩ ⟨Nat.le_of_ble_eq_true rfl, Nat.le_of_ble_eq_true rfl⟩ (Nat.le_of_ble_eq_true rfl) (Nat.le_of_ble_eq_true rfl) (fun E h9 => by obtain ⟨rfl, h9⟩ := h9; exact ⟨rfl, by simp [kse, h9, c_10]⟩) rfl (Nat.le_of_ble_eq_true rfl) dX6_set_26 (fun J_26 h_26 => ?_)
    obtain ⟨rfl, w_26⟩ := h_26
    refine g_aload_n hX 1 rfl dX6_set_29 rfl ?_
    refine cg_X6_settings hX (by decide) rfl q_inX6 q_w3 rfl dX6_set_30 ?_
    refine g_iload_n hX 2 rfl dX6_set_33 rfl ?_
    refine g_iload_n hX 3 rfl dX6_set_34 rfl ?_
    refine c_callI_V hX [.int w, .int n] 7 (by decide) rfl (by decide) rfl (k_X3_exchange I w n) gX6_set_X3_exchange rfl rfl rfl hd_X3_exchange ⟨Nat.le_of_ble_eq_true rfl, Nat.le_of_ble_eq_true rfl⟩ ⟨Nat.le_of_ble_eq_true rfl, Nat.le_of_ble_eq_true rfl⟩ rfl (Nat.le_of_ble_eq_true rfl) dX6_set_35 (fun r_35 J_35 h_35 => ?_)
    obtain ⟨rfl, rfl⟩ := h_35
    refine t_iret hX hE dX6_set_38 (Nat.le_of_ble_eq_true rfl) (Nat.le_of_ble_eq_true rfl) ?_
    exact ⟨_, rfl, by simp [kse, w_26, c_10], rfl, rfl⟩
  · refine t_throwS hX hQ (text := "no such thing is told for all") "java/lang/IllegalArgumentException" rfl (by decide +kernel) q_w1 q_w2 (by decide) q_hat146 hat_146 hgd_146 dX6_set_13 dX6_set_16 dX6_set_17 dX6_set_19 dX6_set_22 (Nat.le_of_ble_eq_true rfl) (Nat.le_of_ble_eq_true rfl) (Nat.le_of_ble_eq_true rfl) (Nat.le_of_ble_eq_true rfl) (Nat.le_of_ble_eq_true rfl) (Nat.le_of_ble_eq_true rfl) ?_
    refine ⟨rfl, ?_⟩
    simp [kse, c_10]
abbrev rm_X6_maker : Room := { frames := 6, cells := 1, slots := 6, locals := 82 }
theorem hd_X6_maker : yX6_maker.cls = RX6 ∧ yX6_maker.cls ≠ "java/lang/invoke/MethodHandle" ∧ yX6_maker.cls ≠ "java/lang/invoke/VarHandle" ∧ (parseMethodDescriptor yX6_maker.desc).map (fun d => d.parameters.length) = some 1 := by decide +kernel
set_option maxRecDepth 100000 in
set_option maxHeartbeats 4000000 in
theorem k_X6_maker {D : va_G} {dT : Nat → ClassId} {ad : Nat → Nat} (I : Nat → Nat → Int32) (hmk : I 15 4 = 97 ∨ I 15 4 = 98 ∨ I 15 4 = 99) (w : Int32) : KTI yX6_maker wsX6_maker rm_X6_maker D dT ad I [.ref (ad 0), .int w] 1 6 (fun q9 J => kmk w = 0 ∧ up2 I 15 4 w = J ∧ I 15 4 = q9) (fun E => (E = xIA ∧ (kmk w) = 1)) := by
  intro l9 hl9
  refine ti_of hl9 (own := RX6) (cc := cX6_maker) (maxL := 3) (some .char) [(0, .ref (ad 0)), (1, .int w)] (by decide) rfl rfl rfl (Nat.le_of_ble_eq_true rfl) ?_
  intro X hX hE hN
  have hQ := FI.x hE
  have q_w3 : Cond.fieldLink RX6 33 "Perforatum" "settings" "LPerforatum$Settings;" ∈ wsX6_maker := List.mem_of_getElem? (i := 3) rfl
  have q_inX6 : ∀ w ∈ wsX60, w ∈ wsX6_maker := by decide +kernel
  have q_w4 : Cond.fieldLink RX6 198 "Perforatum$Settings" "maker" "C" ∈ wsX6_maker := List.mem_of_getElem? (i := 4) rfl
  have q_inX3 : ∀ w ∈ wsX30, w ∈ wsX6_maker := by decide +kernel
  have q_w1 : Cond.classLink RX6 142 "java/lang/IllegalArgumentException" ∈ wsX6_maker := List.mem_of_getElem? (i := 1) rfl
  have q_w2 : Cond.initialized "java/lang/IllegalArgumentException" ∈ wsX6_maker := List.mem_of_getElem? (i := 2) rfl
  have q_hat146 : ∀ w ∈ (vx_atS RX6 146 "java/lang/IllegalArgumentException" ["java/lang/RuntimeException", "java/lang/Exception"]).filter goodWord, w ∈ wsX6_maker := by decide +kernel
  refine g_iload_n hX 1 rfl dX6_maker_0 rfl ?_
  refine g_bipush hX (97) dX6_maker_1 rfl ?_
  refine g_icmp_eq (tgt := 28) hX dX6_maker_3 (by decide) (fun c_3 => ?_) (fun c_3 => ?_)
  · refine g_aload_n hX 0 rfl dX6_maker_28 rfl ?_
    refine cg_X6_settings hX (by decide) rfl q_inX6 q_w3 rfl dX6_maker_29 ?_
    refine cg_X3_maker hX (by decide) rfl q_inX3 q_w4 dX6_maker_32 ?_
    refine g_istore_n hX [(2, .int (I 15 4)), (0, .ref (ad 0)), (1, .int w)] rfl dX6_maker_35 rfl (by decide) ?_
    refine g_aload_n hX 1 rfl dX6_maker_36 rfl ?_
    refine cg_X6_settings hX (by decide) rfl q_inX6 q_w3 rfl dX6_maker_37 ?_
    refine g_iload_n hX 2 rfl dX6_maker_40 rfl ?_
    refine cp_X3_maker hX (by decide) rfl q_inX3 q_w4 (nz3 (Or.inl c_3)) (fz3 (Or.inl c_3)) dX6_maker_41 ?_
    refine g_iload_n hX 0 rfl dX6_maker_44 rfl ?_
    refine t_zret hX (nz3 hmk) hE dX6_maker_45 (Nat.le_of_ble_eq_true rfl) (Nat.le_of_ble_eq_true rfl) ?_
    exact ⟨_, rfl, by rw [kmk, if_pos (Or.inl c_3)], rfl, rfl⟩
  · refine g_iload_n hX 1 rfl dX6_maker_6 rfl ?_
    refine g_bipush hX (98) dX6_maker_7 rfl ?_
    refine g_icmp_eq (tgt := 28) hX dX6_maker_9 (by decide) (fun c_9 => ?_) (fun c_9 => ?_)
    · refine g_aload_n hX 0 rfl dX6_maker_28 rfl ?_
      refine cg_X6_settings hX (by decide) rfl q_inX6 q_w3 rfl dX6_maker_29 ?_
      refine cg_X3_maker hX (by decide) rfl q_inX3 q_w4 dX6_maker_32 ?_
      refine g_istore_n hX [(2, .int (I 15 4)), (0, .ref (ad 0)), (1, .int w)] rfl dX6_maker_35 rfl (by decide) ?_
      refine g_aload_n hX 1 rfl dX6_maker_36 rfl ?_
      refine cg_X6_settings hX (by decide) rfl q_inX6 q_w3 rfl dX6_maker_37 ?_
      refine g_iload_n hX 2 rfl dX6_maker_40 rfl ?_
      refine cp_X3_maker hX (by decide) rfl q_inX3 q_w4 (nz3 (Or.inr (Or.inl c_9))) (fz3 (Or.inr (Or.inl c_9))) dX6_maker_41 ?_
      refine g_iload_n hX 0 rfl dX6_maker_44 rfl ?_
      refine t_zret hX (nz3 hmk) hE dX6_maker_45 (Nat.le_of_ble_eq_true rfl) (Nat.le_of_ble_eq_true rfl) ?_
      exact ⟨_, rfl, by rw [kmk, if_pos (Or.inr (Or.inl c_9))], rfl, rfl⟩
    · refine g_iload_n hX 1 rfl dX6_maker_12 rfl ?_
      refine g_bipush hX (99) dX6_maker_13 rfl ?_
      refine g_icmp_eq (tgt := 28) hX dX6_maker_15 (by decide) (fun c_15 => ?_) (fun c_15 => ?_)
      · refine g_aload_n hX 0 rfl dX6_maker_28 rfl ?_
        refine cg_X6_settings hX (by decide) rfl q_inX6 q_w3 rfl dX6_maker_29 ?_
        refine cg_X3_maker hX (by decide) rfl q_inX3 q_w4 dX6_maker_32 ?_
        refine g_istore_n hX [(2, .int (I 15 4)), (0, .ref (ad 0)), (1, .int w)] rfl dX6_maker_35 rfl (by decide) ?_
        refine g_aload_n hX 1 rfl dX6_maker_36 rfl ?_
        refine cg_X6_settings hX (by decide) rfl q_inX6 q_w3 rfl dX6_maker_37 ?_
        refine g_iload_n hX 2 rfl dX6_maker_40 rfl ?_
        refine cp_X3_maker hX (by decide) rfl q_inX3 q_w4 (nz3 (Or.inr (Or.inr c_15))) (fz3 (Or.inr (Or.inr c_15))) dX6_maker_41 ?_
        refine g_iload_n hX 0 rfl dX6_maker_44 rfl ?_
        refine t_zret hX (nz3 hmk) hE dX6_maker_45 (Nat.le_of_ble_eq_true rfl) (Nat.le_of_ble_eq_true rfl) ?_
        exact ⟨_, rfl, by rw [kmk, if_pos (Or.inr (Or.inr c_15))], rfl, rfl⟩
      · refine t_throwS hX hQ (text := "no such maker") "java/lang/IllegalArgumentException" rfl (by decide +kernel) q_w1 q_w2 (by decide) q_hat146 hat_146 hgd_146 dX6_maker_18 dX6_maker_21 dX6_maker_22 dX6_maker_24 dX6_maker_27 (Nat.le_of_ble_eq_true rfl) (Nat.le_of_ble_eq_true rfl) (Nat.le_of_ble_eq_true rfl) (Nat.le_of_ble_eq_true rfl) (Nat.le_of_ble_eq_true rfl) (Nat.le_of_ble_eq_true rfl) ?_
        refine ⟨rfl, ?_⟩
        simp [kmk, c_3, c_9, c_15]
abbrev rm_X6_load : Room := { frames := 7, cells := 1, slots := 6, locals := 103 }
theorem hd_X6_load : yX6_load.cls = RX6 ∧ yX6_load.cls ≠ "java/lang/invoke/MethodHandle" ∧ yX6_load.cls ≠ "java/lang/invoke/VarHandle" ∧ (parseMethodDescriptor yX6_load.desc).map (fun d => d.parameters.length) = some 1 := by decide +kernel
set_option maxRecDepth 100000 in
set_option maxHeartbeats 4000000 in
theorem k_X6_load {D : va_G} {dT : Nat → ClassId} {ad : Nat → Nat} (I : Nat → Nat → Int32) (r : Int32) : KTI yX6_load wsX6_load rm_X6_load D dT ad I [.ref (ad 0), .int r] 1 6 (fun q9 J => kr1 I r = 0 ∧ bgP I r.toNatClampNeg = J ∧ crw (bgP I r.toNatClampNeg (8 + r.toNatClampNeg)) 200 = q9) (fun E => (E = xIO ∧ (kr1 I r) = 1)) := by
  intro l9 hl9
  refine ti_of hl9 (own := RX6) (cc := cX6_load) (maxL := 3) (some .int) [(0, .ref (ad 0)), (1, .int r)] (by decide) rfl rfl rfl (Nat.le_of_ble_eq_true rfl) ?_
  intro X hX hE hN
  have hQ := FI.x hE
  have q_w1 : Cond.fieldLink RX6 25 "Perforatum" "player" "LPerforatum$Player;" ∈ wsX6_load := List.mem_of_getElem? (i := 1) rfl
  have q_inX6 : ∀ w ∈ wsX60, w ∈ wsX6_load := by decide +kernel
  refine g_aload_n hX 0 rfl dX6_load_0 rfl ?_
  refine g_iload_n hX 1 rfl dX6_load_1 rfl ?_
  refine ct_callQ_V hX hQ [.int r] 10 (by decide) rfl (by decide) rfl (k_X6_demandPaper I r) gX6_load_X6_demandPaper rfl rfl rfl hd_X6_demandPaper ⟨Nat.le_of_ble_eq_true rfl, Nat.le_of_ble_eq_true rfl⟩ ⟨Nat.le_of_ble_eq_true rfl, Nat.le_of_ble_eq_true rfl⟩ (Nat.le_of_ble_eq_true rfl) (Nat.le_of_ble_eq_true rfl) (fun E h9 => by obtain ⟨rfl, h9⟩ := h9; exact ⟨rfl, by simp [kr1, h9]⟩) rfl (Nat.le_of_ble_eq_true rfl) dX6_load_2 (fun r_2 J_2 h_2 => ?_)
  obtain ⟨rfl, rfl, hi_2, rp_2⟩ := h_2
  refine g_stk (st2 := .ref (ad (4 + r.toNatClampNeg)) :: []) rfl ?_
  refine g_astore_n hX [(2, .ref (ad (4 + r.toNatClampNeg))), (0, .ref (ad 0)), (1, .int r)] rfl dX6_load_5 rfl (by decide) ?_
  refine g_aload_n hX 1 rfl dX6_load_6 rfl ?_
  refine cg_X6_player hX (by decide) rfl q_inX6 q_w1 rfl dX6_load_7 ?_
  refine g_aload_n hX 0 rfl dX6_load_10 rfl ?_
  refine c_callV_V hX [.ref (ad (4 + r.toNatClampNeg))] 6 (by decide) rfl (by decide) rfl (k_X2_begin I r.toNatClampNeg hi_2) gX6_load_X2_begin rfl rfl rfl hd_X2_begin ⟨Nat.le_of_ble_eq_true rfl, Nat.le_of_ble_eq_true rfl⟩ ⟨Nat.le_of_ble_eq_true rfl, Nat.le_of_ble_eq_true rfl⟩ rfl (Nat.le_of_ble_eq_true rfl) dX6_load_11 (fun J_11 h_11 => ?_)
  subst h_11
  refine g_aload_n hX 0 rfl dX6_load_14 rfl ?_
  refine c_callI_V hX [] 5 (by omega) (cK_p hi_2) (by decide) rfl (k_X1_countRows (bgP I r.toNatClampNeg) r.toNatClampNeg hi_2) gX6_load_X1_countRows rfl rfl rfl hd_X1_countRows ⟨Nat.le_of_ble_eq_true rfl, Nat.le_of_ble_eq_true rfl⟩ ⟨Nat.le_of_ble_eq_true rfl, Nat.le_of_ble_eq_true rfl⟩ rfl (Nat.le_of_ble_eq_true rfl) dX6_load_15 (fun r_15 J_15 h_15 => ?_)
  obtain ⟨rfl, rfl⟩ := h_15
  refine t_iret hX hE dX6_load_18 (Nat.le_of_ble_eq_true rfl) (Nat.le_of_ble_eq_true rfl) ?_
  exact ⟨_, rfl, by simp [kr1, rp_2], rfl, rfl⟩

