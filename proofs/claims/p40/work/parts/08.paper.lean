abbrev rm_J6_bitCount_0f7a4 : Room := { frames := 0, cells := 0, slots := 0, locals := 0 }
theorem hd_J6_bitCount_0f7a4 : yJ6_bitCount_0f7a4.cls = RJ6 ∧ yJ6_bitCount_0f7a4.cls ≠ "java/lang/invoke/MethodHandle" ∧ yJ6_bitCount_0f7a4.cls ≠ "java/lang/invoke/VarHandle" ∧ (parseMethodDescriptor yJ6_bitCount_0f7a4.desc).map (fun d => d.parameters.length) = some 1 := by decide +kernel
set_option maxRecDepth 100000 in
set_option maxHeartbeats 4000000 in
theorem k_J6_bitCount_0f7a4 {D : va_G} {dT : Nat → ClassId} {ad : Nat → Nat} (I : Nat → Nat → Int32) (x : Int32) : KI yJ6_bitCount_0f7a4 wsJ6_bitCount_0f7a4 rm_J6_bitCount_0f7a4 D dT ad I [.int x] (fun r J => I = J ∧ bcnt x = r) := by
  intro l9
  refine ci_of (own := RJ6) (cc := cJ6_bitCount_0f7a4) (maxL := 1) (some .int) [(0, .int x)] (by decide) rfl rfl rfl (Nat.le_of_ble_eq_true rfl) ?_
  intro X hX hE hN
  have q_w1 : Cond.constant RJ6 265 (1431655765) ∈ wsJ6_bitCount_0f7a4 := List.mem_of_getElem? (i := 1) rfl
  have q_w2 : Cond.constant RJ6 266 (858993459) ∈ wsJ6_bitCount_0f7a4 := List.mem_of_getElem? (i := 2) rfl
  have q_w3 : Cond.constant RJ6 267 (252645135) ∈ wsJ6_bitCount_0f7a4 := List.mem_of_getElem? (i := 3) rfl
  refine g_iload_n hX 0 rfl dJ6_bitCount_0f7a4_0 rfl ?_
  refine g_iload_n hX 0 rfl dJ6_bitCount_0f7a4_1 rfl ?_
  refine g_iconst hX (1) dJ6_bitCount_0f7a4_2 rfl ?_
  refine g_iushr hX dJ6_bitCount_0f7a4_3 ?_
  refine g_ldcw hX (1431655765) q_w1 dJ6_bitCount_0f7a4_4 ?_
  refine g_iand hX dJ6_bitCount_0f7a4_7 ?_
  refine g_isub hX dJ6_bitCount_0f7a4_8 ?_
  refine g_topi (fun y1 e_y1 => ?_)
  refine g_istore_n hX [(0, .int y1)] rfl dJ6_bitCount_0f7a4_9 rfl (by decide) ?_
  refine g_iload_n hX 0 rfl dJ6_bitCount_0f7a4_10 rfl ?_
  refine g_ldcw hX (858993459) q_w2 dJ6_bitCount_0f7a4_11 ?_
  refine g_iand hX dJ6_bitCount_0f7a4_14 ?_
  refine g_iload_n hX 0 rfl dJ6_bitCount_0f7a4_15 rfl ?_
  refine g_iconst hX (2) dJ6_bitCount_0f7a4_16 rfl ?_
  refine g_iushr hX dJ6_bitCount_0f7a4_17 ?_
  refine g_ldcw hX (858993459) q_w2 dJ6_bitCount_0f7a4_18 ?_
  refine g_iand hX dJ6_bitCount_0f7a4_21 ?_
  refine g_iadd hX dJ6_bitCount_0f7a4_22 ?_
  refine g_topi (fun y2 e_y2 => ?_)
  refine g_istore_n hX [(0, .int y2)] rfl dJ6_bitCount_0f7a4_23 rfl (by decide) ?_
  refine g_iload_n hX 0 rfl dJ6_bitCount_0f7a4_24 rfl ?_
  refine g_iload_n hX 0 rfl dJ6_bitCount_0f7a4_25 rfl ?_
  refine g_iconst hX (4) dJ6_bitCount_0f7a4_26 rfl ?_
  refine g_iushr hX dJ6_bitCount_0f7a4_27 ?_
  refine g_iadd hX dJ6_bitCount_0f7a4_28 ?_
  refine g_ldcw hX (252645135) q_w3 dJ6_bitCount_0f7a4_29 ?_
  refine g_iand hX dJ6_bitCount_0f7a4_32 ?_
  refine g_topi (fun y3 e_y3 => ?_)
  refine g_istore_n hX [(0, .int y3)] rfl dJ6_bitCount_0f7a4_33 rfl (by decide) ?_
  refine g_iload_n hX 0 rfl dJ6_bitCount_0f7a4_34 rfl ?_
  refine g_iload_n hX 0 rfl dJ6_bitCount_0f7a4_35 rfl ?_
  refine g_bipush hX (8) dJ6_bitCount_0f7a4_36 rfl ?_
  refine g_iushr hX dJ6_bitCount_0f7a4_38 ?_
  refine g_iadd hX dJ6_bitCount_0f7a4_39 ?_
  refine g_topi (fun y4 e_y4 => ?_)
  refine g_istore_n hX [(0, .int y4)] rfl dJ6_bitCount_0f7a4_40 rfl (by decide) ?_
  refine g_iload_n hX 0 rfl dJ6_bitCount_0f7a4_41 rfl ?_
  refine g_iload_n hX 0 rfl dJ6_bitCount_0f7a4_42 rfl ?_
  refine g_bipush hX (16) dJ6_bitCount_0f7a4_43 rfl ?_
  refine g_iushr hX dJ6_bitCount_0f7a4_45 ?_
  refine g_iadd hX dJ6_bitCount_0f7a4_46 ?_
  refine g_topi (fun y5 e_y5 => ?_)
  refine g_istore_n hX [(0, .int y5)] rfl dJ6_bitCount_0f7a4_47 rfl (by decide) ?_
  refine g_iload_n hX 0 rfl dJ6_bitCount_0f7a4_48 rfl ?_
  refine g_bipush hX (63) dJ6_bitCount_0f7a4_49 rfl ?_
  refine g_iand hX dJ6_bitCount_0f7a4_51 ?_
  refine g_iret hX hE dJ6_bitCount_0f7a4_52 (by omega) (by omega) ?_
  exact ⟨_, rfl, rfl, by subst e_y5 e_y4 e_y3 e_y2 e_y1; rfl⟩
abbrev rm_X1_readBits : Room := { frames := 0, cells := 0, slots := 0, locals := 0 }
theorem hd_X1_readBits : yX1_readBits.cls = RX1 ∧ yX1_readBits.cls ≠ "java/lang/invoke/MethodHandle" ∧ yX1_readBits.cls ≠ "java/lang/invoke/VarHandle" ∧ (parseMethodDescriptor yX1_readBits.desc).map (fun d => d.parameters.length) = some 1 := by decide +kernel
set_option maxRecDepth 100000 in
set_option maxHeartbeats 4000000 in
theorem k_X1_readBits {D : va_G} {dT : Nat → ClassId} {ad : Nat → Nat} (I : Nat → Nat → Int32) (i : Nat) (hi : i < 4) (row : Int32) : KI yX1_readBits wsX1_readBits rm_X1_readBits D dT ad I [.ref (ad (4 + i)), .int row] (fun r J => I = J ∧ rb I i row = r) := by
  intro l9
  refine ci_of (own := RX1) (cc := cX1_readBits) (maxL := 2) (some .int) [(0, .ref (ad (4 + i))), (1, .int row)] (by decide) rfl rfl rfl (Nat.le_of_ble_eq_true rfl) ?_
  intro X hX hE hN
  have q_w1 : Cond.fieldLink RX1 9 "Perforatum$Paper" "bits" "[I" ∈ wsX1_readBits := List.mem_of_getElem? (i := 1) rfl
  have q_inX1 : ∀ w ∈ wsX10, w ∈ wsX1_readBits := by decide +kernel
  refine g_iload_n hX 1 rfl dX1_readBits_0 rfl ?_
  refine g_if_lt (tgt := 20) hX dX1_readBits_1 (by decide) (fun c_1 => ?_) (fun c_1 => ?_)
  · refine g_iconst hX (0) dX1_readBits_20 rfl ?_
    refine g_iret hX hE dX1_readBits_21 (by omega) (by omega) ?_
    exact ⟨_, rfl, rfl, by simp only [rb, c_1, if_true, if_false]⟩
  · refine g_iload_n hX 1 rfl dX1_readBits_4 rfl ?_
    refine g_sipush hX (200) dX1_readBits_5 rfl ?_
    refine g_icmp_ge (tgt := 20) hX dX1_readBits_8 (by decide) (fun c_8 => ?_) (fun c_8 => ?_)
    · refine g_iconst hX (0) dX1_readBits_20 rfl ?_
      refine g_iret hX hE dX1_readBits_21 (by omega) (by omega) ?_
      exact ⟨_, rfl, rfl, by simp only [rb, c_1, c_8, if_true, if_false]⟩
    · refine g_aload_n hX 0 rfl dX1_readBits_11 rfl ?_
      refine cg_X1_bits hX (by omega) (cK_p hi) q_inX1 q_w1 (cR_b hi) dX1_readBits_12 ?_
      refine g_iload_n hX 1 rfl dX1_readBits_15 rfl ?_
      refine c_iald hX (by omega) (cK_b hi) (by rw [cN_b hi]; exact vin200 c_1 c_8) dX1_readBits_16 ?_
      refine g_goto (tgt := 21) hX dX1_readBits_17 (by decide) ?_
      refine g_iret hX hE dX1_readBits_21 (by omega) (by omega) ?_
      exact ⟨_, rfl, rfl, by simp only [rb, c_1, c_8, if_true, if_false]⟩
abbrev rm_X1_hasHole : Room := { frames := 1, cells := 0, slots := 0, locals := 21 }
theorem hd_X1_hasHole : yX1_hasHole.cls = RX1 ∧ yX1_hasHole.cls ≠ "java/lang/invoke/MethodHandle" ∧ yX1_hasHole.cls ≠ "java/lang/invoke/VarHandle" ∧ (parseMethodDescriptor yX1_hasHole.desc).map (fun d => d.parameters.length) = some 2 := by decide +kernel
set_option maxRecDepth 100000 in
set_option maxHeartbeats 4000000 in
theorem k_X1_hasHole {D : va_G} {dT : Nat → ClassId} {ad : Nat → Nat} (I : Nat → Nat → Int32) (i : Nat) (hi : i < 4) (row t : Int32) : KI yX1_hasHole wsX1_hasHole rm_X1_hasHole D dT ad I [.ref (ad (4 + i)), .int row, .int t] (fun r J => I = J ∧ hh I i row t = r) := by
  intro l9
  refine ci_of (own := RX1) (cc := cX1_hasHole) (maxL := 3) (some .boolean) [(0, .ref (ad (4 + i))), (1, .int row), (2, .int t)] (by decide) rfl rfl rfl (Nat.le_of_ble_eq_true rfl) ?_
  intro X hX hE hN
  refine g_aload_n hX 0 rfl dX1_hasHole_0 rfl ?_
  refine g_iload_n hX 1 rfl dX1_hasHole_1 rfl ?_
  refine c_callI_V hX [.int row] 5 (by omega) (cK_p hi) (by decide) rfl (k_X1_readBits I i hi row) gX1_hasHole_X1_readBits rfl rfl rfl hd_X1_readBits ⟨Nat.le_of_ble_eq_true rfl, Nat.le_of_ble_eq_true rfl⟩ ⟨Nat.zero_le _, Nat.zero_le _⟩ rfl (Nat.le_of_ble_eq_true rfl) dX1_hasHole_2 (fun r_2 J_2 h_2 => ?_)
  obtain ⟨rfl, rfl⟩ := h_2
  refine g_iload_n hX 2 rfl dX1_hasHole_5 rfl ?_
  refine g_ishr hX dX1_hasHole_6 ?_
  refine g_iconst hX (1) dX1_hasHole_7 rfl ?_
  refine g_iand hX dX1_hasHole_8 ?_
  refine g_if_eq (tgt := 16) hX dX1_hasHole_9 (by decide) (fun c_9 => ?_) (fun c_9 => ?_)
  · refine g_iconst hX (0) dX1_hasHole_16 rfl ?_
    refine g_zret hX rfl hE dX1_hasHole_17 (by omega) (by omega) ?_
    exact ⟨_, rfl, rfl, by simp only [hh, c_9, if_true, if_false]⟩
  · refine g_iconst hX (1) dX1_hasHole_12 rfl ?_
    refine g_goto (tgt := 17) hX dX1_hasHole_13 (by decide) ?_
    refine g_zret hX rfl hE dX1_hasHole_17 (by omega) (by omega) ?_
    exact ⟨_, rfl, rfl, by simp only [hh, c_9, if_true, if_false]⟩
abbrev rm_X1_putHole : Room := { frames := 0, cells := 0, slots := 0, locals := 0 }
theorem hd_X1_putHole : yX1_putHole.cls = RX1 ∧ yX1_putHole.cls ≠ "java/lang/invoke/MethodHandle" ∧ yX1_putHole.cls ≠ "java/lang/invoke/VarHandle" ∧ (parseMethodDescriptor yX1_putHole.desc).map (fun d => d.parameters.length) = some 3 := by decide +kernel
set_option maxRecDepth 100000 in
set_option maxHeartbeats 4000000 in
theorem k_X1_putHole {D : va_G} {dT : Nat → ClassId} {ad : Nat → Nat} (I : Nat → Nat → Int32) (i : Nat) (hi : i < 4) (row t is : Int32) : KV yX1_putHole wsX1_putHole rm_X1_putHole D dT ad I [.ref (ad (4 + i)), .int row, .int t, .int is] (fun J => ph I i row t is = J) := by
  intro l9
  refine cv_of (own := RX1) (cc := cX1_putHole) (maxL := 5) [(0, .ref (ad (4 + i))), (1, .int row), (2, .int t), (3, .int is)] (by decide) rfl rfl rfl (Nat.le_of_ble_eq_true rfl) ?_
  intro X hX hE hN
  have q_w1 : Cond.fieldLink RX1 9 "Perforatum$Paper" "bits" "[I" ∈ wsX1_putHole := List.mem_of_getElem? (i := 1) rfl
  have q_inX1 : ∀ w ∈ wsX10, w ∈ wsX1_putHole := by decide +kernel
  refine g_iload_n hX 1 rfl dX1_putHole_0 rfl ?_
  refine g_if_lt (tgt := 11) hX dX1_putHole_1 (by decide) (fun c_1 => ?_) (fun c_1 => ?_)
  · refine g_vret hX hE dX1_putHole_11 (by omega) (by omega) ?_
    exact ⟨_, rfl, by simp only [ph, phv, c_1, if_true, if_false]⟩
  · refine g_iload_n hX 1 rfl dX1_putHole_4 rfl ?_
    refine g_sipush hX (200) dX1_putHole_5 rfl ?_
    refine g_icmp_lt (tgt := 12) hX dX1_putHole_8 (by decide) (fun c_8 => ?_) (fun c_8 => ?_)
    · refine g_iconst hX (1) dX1_putHole_12 rfl ?_
      refine g_iload_n hX 2 rfl dX1_putHole_13 rfl ?_
      refine g_ishl hX dX1_putHole_14 ?_
      refine g_istore hX [(4, .int (1 <<< (t &&& 31))), (0, .ref (ad (4 + i))), (1, .int row), (2, .int t), (3, .int is)] rfl dX1_putHole_15 (by decide) ?_
      refine g_aload_n hX 1 rfl dX1_putHole_17 rfl ?_
      refine cg_X1_bits hX (by omega) (cK_p hi) q_inX1 q_w1 (cR_b hi) dX1_putHole_18 ?_
      refine g_iload_n hX 2 rfl dX1_putHole_21 rfl ?_
      refine g_iload_n hX 4 rfl dX1_putHole_22 rfl ?_
      refine g_if_eq (tgt := 38) hX dX1_putHole_23 (by decide) (fun c_23 => ?_) (fun c_23 => ?_)
      · refine g_aload_n hX 1 rfl dX1_putHole_38 rfl ?_
        refine cg_X1_bits hX (by omega) (cK_p hi) q_inX1 q_w1 (cR_b hi) dX1_putHole_39 ?_
        refine g_iload_n hX 2 rfl dX1_putHole_42 rfl ?_
        refine c_iald hX (by omega) (cK_b hi) (by rw [cN_b hi]; exact vin200b c_1 c_8) dX1_putHole_43 ?_
        refine g_iload hX 0 rfl dX1_putHole_44 ?_
        refine g_iconst hX (-1) dX1_putHole_46 rfl ?_
        refine g_ixor hX dX1_putHole_47 ?_
        refine g_iand hX dX1_putHole_48 ?_
        refine c_iastx hX (by omega) (cK_b hi) (by rw [cN_b hi]; exact vin200b c_1 c_8) dX1_putHole_49 ?_
        refine g_vret hX hE dX1_putHole_50 (by omega) (by omega) ?_
        exact ⟨_, rfl, by simp only [ph, phv, c_1, c_23, c_8, if_true, if_false]⟩
      · refine g_aload_n hX 1 rfl dX1_putHole_26 rfl ?_
        refine cg_X1_bits hX (by omega) (cK_p hi) q_inX1 q_w1 (cR_b hi) dX1_putHole_27 ?_
        refine g_iload_n hX 2 rfl dX1_putHole_30 rfl ?_
        refine c_iald hX (by omega) (cK_b hi) (by rw [cN_b hi]; exact vin200b c_1 c_8) dX1_putHole_31 ?_
        refine g_iload hX 0 rfl dX1_putHole_32 ?_
        refine g_ior hX dX1_putHole_34 ?_
        refine g_goto (tgt := 49) hX dX1_putHole_35 (by decide) ?_
        refine c_iastx hX (by omega) (cK_b hi) (by rw [cN_b hi]; exact vin200b c_1 c_8) dX1_putHole_49 ?_
        refine g_vret hX hE dX1_putHole_50 (by omega) (by omega) ?_
        exact ⟨_, rfl, by simp only [ph, phv, c_1, c_23, c_8, if_true, if_false]⟩
    · refine g_vret hX hE dX1_putHole_11 (by omega) (by omega) ?_
      exact ⟨_, rfl, by simp only [ph, phv, c_1, c_8, if_true, if_false]⟩
abbrev rm_X1_countRows : Room := { frames := 0, cells := 0, slots := 0, locals := 0 }
theorem hd_X1_countRows : yX1_countRows.cls = RX1 ∧ yX1_countRows.cls ≠ "java/lang/invoke/MethodHandle" ∧ yX1_countRows.cls ≠ "java/lang/invoke/VarHandle" ∧ (parseMethodDescriptor yX1_countRows.desc).map (fun d => d.parameters.length) = some 0 := by decide +kernel
set_option maxRecDepth 100000 in
set_option maxHeartbeats 4000000 in
theorem k_X1_countRows {D : va_G} {dT : Nat → ClassId} {ad : Nat → Nat} (I : Nat → Nat → Int32) (i : Nat) (hi : i < 4) : KI yX1_countRows wsX1_countRows rm_X1_countRows D dT ad I [.ref (ad (4 + i))] (fun r J => I = J ∧ crw (I (8 + i)) 200 = r) := by
  intro l9
  refine ci_of (own := RX1) (cc := cX1_countRows) (maxL := 2) (some .int) [(0, .ref (ad (4 + i)))] (by decide) rfl rfl rfl (Nat.le_of_ble_eq_true rfl) ?_
  intro X hX hE hN
  have q_w1 : Cond.fieldLink RX1 9 "Perforatum$Paper" "bits" "[I" ∈ wsX1_countRows := List.mem_of_getElem? (i := 1) rfl
  have q_inX1 : ∀ w ∈ wsX10, w ∈ wsX1_countRows := by decide +kernel
  refine g_sipush hX (199) dX1_countRows_0 rfl ?_
  refine g_istore_n hX [(1, .int 199), (0, .ref (ad (4 + i)))] rfl dX1_countRows_3 rfl (by decide) ?_
  have lp_4 : ∀ (n9 : Nat) (k : Nat) (x : Int32), k < n9 → k ≤ 200 → x = nI k - 1 → crw (I (8 + i)) 200 = crw (I (8 + i)) k → CG X D dT ad I [(1, .int x), (0, .ref (ad (4 + i)))] 0 0 4 [] := by
    intro n9
    induction n9 with
    | zero => intro k x h9; exact absurd h9 (Nat.not_lt_zero _)
    | succ n9 ih9 =>
      intro k x h9 hk hx hs
      have ih_4 := ih9
      refine g_iload_n hX 0 rfl dX1_countRows_4 rfl ?_
      refine g_if_lt (tgt := 27) hX dX1_countRows_5 (by decide) (fun c_5 => ?_) (fun c_5 => ?_)
      · have k0 : k = 0 := by have := rowk0 hx c_5; omega
        refine g_iconst hX (0) dX1_countRows_27 rfl ?_
        refine g_iret hX hE dX1_countRows_28 (by omega) (by omega) ?_
        exact ⟨_, rfl, rfl, by rw [hs, k0]; rfl⟩
      · obtain ⟨k, rfl⟩ : ∃ k2, k = k2 + 1 := ⟨k - 1, by have := rowk hx c_5; omega⟩
        have hx2 : x = nI k := by rw [hx]; exact nI_pred k
        subst hx2
        refine g_aload_n hX 1 rfl dX1_countRows_8 rfl ?_
        refine cg_X1_bits hX (by omega) (cK_p hi) q_inX1 q_w1 (cR_b hi) dX1_countRows_9 ?_
        refine g_iload_n hX 0 rfl dX1_countRows_12 rfl ?_
        refine c_ialdk hX k (by omega) (cK_b hi) (by rw [cN_b hi]; omega) (by omega) dX1_countRows_13 ?_
        refine g_if_eq (tgt := 21) hX dX1_countRows_14 (by decide) (fun c_14 => ?_) (fun c_14 => ?_)
        · refine g_iinc hX ((nI k) + (-1)) [(1, .int ((nI k) + (-1))), (0, .ref (ad (4 + i)))] (k := 0) rfl (g_dec (nI k)) rfl dX1_countRows_21 (by decide) ?_
          refine g_goto (tgt := 4) hX dX1_countRows_24 (by decide) ?_
          refine g_lv [0, 1] rfl ?_
          exact ih_4 k ((nI k) + (-1)) (by omega) (by omega) (add_m1 _) (hs.trans (by rw [crw, if_pos c_14]))
        · refine g_iload_n hX 0 rfl dX1_countRows_17 rfl ?_
          refine g_iconst hX (1) dX1_countRows_18 rfl ?_
          refine g_iadd hX dX1_countRows_19 ?_
          refine g_iret hX hE dX1_countRows_20 (by omega) (by omega) ?_
          exact ⟨_, rfl, rfl, by rw [hs, crw, if_neg c_14]⟩
  refine g_lv [0, 1] rfl ?_
  exact lp_4 _ 200 199 (Nat.lt_succ_self _) (Nat.le_refl _) (by decide) rfl
abbrev rm_X1_hasHolesFrom : Room := { frames := 0, cells := 0, slots := 0, locals := 0 }
theorem hd_X1_hasHolesFrom : yX1_hasHolesFrom.cls = RX1 ∧ yX1_hasHolesFrom.cls ≠ "java/lang/invoke/MethodHandle" ∧ yX1_hasHolesFrom.cls ≠ "java/lang/invoke/VarHandle" ∧ (parseMethodDescriptor yX1_hasHolesFrom.desc).map (fun d => d.parameters.length) = some 1 := by decide +kernel
set_option maxRecDepth 100000 in
set_option maxHeartbeats 4000000 in
theorem k_X1_hasHolesFrom {D : va_G} {dT : Nat → ClassId} {ad : Nat → Nat} (I : Nat → Nat → Int32) (i : Nat) (hi : i < 4) (a : Nat) (ha : a ≤ 200) : KI yX1_hasHolesFrom wsX1_hasHolesFrom rm_X1_hasHolesFrom D dT ad I [.ref (ad (4 + i)), .int (nI a)] (fun r J => I = J ∧ anyF (I (8 + i)) (200 - a) a = r) := by
  intro l9
  refine ci_of (own := RX1) (cc := cX1_hasHolesFrom) (maxL := 3) (some .boolean) [(0, .ref (ad (4 + i))), (1, .int (nI a))] (by decide) rfl rfl rfl (Nat.le_of_ble_eq_true rfl) ?_
  intro X hX hE hN
  have q_w1 : Cond.fieldLink RX1 9 "Perforatum$Paper" "bits" "[I" ∈ wsX1_hasHolesFrom := List.mem_of_getElem? (i := 1) rfl
  have q_inX1 : ∀ w ∈ wsX10, w ∈ wsX1_hasHolesFrom := by decide +kernel
  refine g_iload_n hX 1 rfl dX1_hasHolesFrom_0 rfl ?_
  refine g_if_ge (tgt := 8) hX dX1_hasHolesFrom_1 (by decide) (fun c_1 => ?_) (fun c_1 => ?_)
  · refine g_iload_n hX 1 rfl dX1_hasHolesFrom_8 rfl ?_
    refine g_istore_n hX [(2, .int (nI a)), (0, .ref (ad (4 + i))), (1, .int (nI a))] rfl dX1_hasHolesFrom_9 rfl (by decide) ?_
    have lp_10 : ∀ (n9 : Nat) (k : Nat), 200 - k < n9 → k ≤ 200 → anyF (I (8 + i)) (200 - a) a = anyF (I (8 + i)) (200 - k) k → CG X D dT ad I [(2, .int (nI k)), (0, .ref (ad (4 + i))), (1, .int (nI a))] 0 0 10 [] := by
      intro n9
      induction n9 with
      | zero => intro k h9; exact absurd h9 (Nat.not_lt_zero _)
      | succ n9 ih9 =>
        intro k h9 hk hs
        have ih_10 := ih9
        refine g_iload_n hX 0 rfl dX1_hasHolesFrom_10 rfl ?_
        refine g_sipush hX (200) dX1_hasHolesFrom_11 rfl ?_
        refine g_icmp_ge (tgt := 34) hX dX1_hasHolesFrom_14 (by decide) (fun c_14 => ?_) (fun c_14 => ?_)
        · have c_14 : 200 ≤ k := (nI_leI (a := 200) (b := k) (by omega) (by omega)).mp c_14
          refine g_iconst hX (0) dX1_hasHolesFrom_34 rfl ?_
          refine g_zret hX rfl hE dX1_hasHolesFrom_35 (by omega) (by omega) ?_
          exact ⟨_, rfl, rfl, by rw [hs, show 200 - k = 0 by omega]; rfl⟩
        · have c_14 : ¬ 200 ≤ k := fun h9 => c_14 ((nI_leI (a := 200) (b := k) (by omega) (by omega)).mpr h9)
          refine g_aload_n hX 1 rfl dX1_hasHolesFrom_17 rfl ?_
          refine cg_X1_bits hX (by omega) (cK_p hi) q_inX1 q_w1 (cR_b hi) dX1_hasHolesFrom_18 ?_
          refine g_iload_n hX 0 rfl dX1_hasHolesFrom_21 rfl ?_
          refine c_ialdk hX k (by omega) (cK_b hi) (by rw [cN_b hi]; omega) (by omega) dX1_hasHolesFrom_22 ?_
          refine g_if_eq (tgt := 28) hX dX1_hasHolesFrom_23 (by decide) (fun c_23 => ?_) (fun c_23 => ?_)
          · refine g_iinc hX (nI (k + 1)) [(2, .int (nI (k + 1))), (0, .ref (ad (4 + i))), (1, .int (nI a))] (k := 0) rfl (g_inc k) rfl dX1_hasHolesFrom_28 (by decide) ?_
            refine g_goto (tgt := 10) hX dX1_hasHolesFrom_31 (by decide) ?_
            refine g_lv [0, 1, 2] rfl ?_
            exact ih_10 (k + 1) (by omega) (by omega) (hs.trans (by rw [show 200 - k = (200 - (k + 1)) + 1 by omega, anyF, if_pos c_23]))
          · refine g_iconst hX (1) dX1_hasHolesFrom_26 rfl ?_
            refine g_zret hX rfl hE dX1_hasHolesFrom_27 (by omega) (by omega) ?_
            exact ⟨_, rfl, rfl, by rw [hs, show 200 - k = (200 - (k + 1)) + 1 by omega, anyF, if_neg c_23]⟩
    refine g_lv [0, 1, 2] rfl ?_
    exact lp_10 _ a (Nat.lt_succ_self _) ha rfl
  · exact absurd (nI_pos2 (by omega)) c_1
abbrev rm_X1_countHoles : Room := { frames := 1, cells := 0, slots := 0, locals := 20 }
theorem hd_X1_countHoles : yX1_countHoles.cls = RX1 ∧ yX1_countHoles.cls ≠ "java/lang/invoke/MethodHandle" ∧ yX1_countHoles.cls ≠ "java/lang/invoke/VarHandle" ∧ (parseMethodDescriptor yX1_countHoles.desc).map (fun d => d.parameters.length) = some 1 := by decide +kernel
set_option maxRecDepth 100000 in
set_option maxHeartbeats 4000000 in
theorem k_X1_countHoles {D : va_G} {dT : Nat → ClassId} {ad : Nat → Nat} (I : Nat → Nat → Int32) (i : Nat) (hi : i < 4) (tr : Int32) : KI yX1_countHoles wsX1_countHoles rm_X1_countHoles D dT ad I [.ref (ad (4 + i)), .int tr] (fun r J => I = J ∧ sumB (fun r => bcnt (I (8 + i) r &&& tr)) 200 = r) := by
  intro l9
  refine ci_of (own := RX1) (cc := cX1_countHoles) (maxL := 4) (some .int) [(0, .ref (ad (4 + i))), (1, .int tr)] (by decide) rfl rfl rfl (Nat.le_of_ble_eq_true rfl) ?_
  intro X hX hE hN
  have q_w1 : Cond.fieldLink RX1 9 "Perforatum$Paper" "bits" "[I" ∈ wsX1_countHoles := List.mem_of_getElem? (i := 1) rfl
  have q_inX1 : ∀ w ∈ wsX10, w ∈ wsX1_countHoles := by decide +kernel
  refine g_iconst hX (0) dX1_countHoles_0 rfl ?_
  refine g_istore_n hX [(2, .int 0), (0, .ref (ad (4 + i))), (1, .int tr)] rfl dX1_countHoles_1 rfl (by decide) ?_
  refine g_iconst hX (0) dX1_countHoles_2 rfl ?_
  refine g_istore_n hX [(3, .int 0), (2, .int 0), (0, .ref (ad (4 + i))), (1, .int tr)] rfl dX1_countHoles_3 rfl (by decide) ?_
  have lp_4 : ∀ (n9 : Nat) (k : Nat) (q : Int32), 200 - k < n9 → k ≤ 200 → q = sumB (fun r => bcnt (I (8 + i) r &&& tr)) k → CG X D dT ad I [(3, .int (nI k)), (2, .int q), (0, .ref (ad (4 + i))), (1, .int tr)] 0 0 4 [] := by
    intro n9
    induction n9 with
    | zero => intro k q h9; exact absurd h9 (Nat.not_lt_zero _)
    | succ n9 ih9 =>
      intro k q h9 hk hq
      have ih_4 := ih9
      refine g_iload_n hX 0 rfl dX1_countHoles_4 rfl ?_
      refine g_sipush hX (200) dX1_countHoles_5 rfl ?_
      refine g_icmp_ge (tgt := 31) hX dX1_countHoles_8 (by decide) (fun c_8 => ?_) (fun c_8 => ?_)
      · have c_8 : 200 ≤ k := (nI_leI (a := 200) (b := k) (by omega) (by omega)).mp c_8
        refine g_iload_n hX 1 rfl dX1_countHoles_31 rfl ?_
        refine g_iret hX hE dX1_countHoles_32 (by omega) (by omega) ?_
        exact ⟨_, rfl, rfl, by rw [hq, show k = 200 by omega]⟩
      · have c_8 : ¬ 200 ≤ k := fun h9 => c_8 ((nI_leI (a := 200) (b := k) (by omega) (by omega)).mpr h9)
        refine g_iload_n hX 1 rfl dX1_countHoles_11 rfl ?_
        refine g_aload_n hX 2 rfl dX1_countHoles_12 rfl ?_
        refine cg_X1_bits hX (by omega) (cK_p hi) q_inX1 q_w1 (cR_b hi) dX1_countHoles_13 ?_
        refine g_iload_n hX 0 rfl dX1_countHoles_16 rfl ?_
        refine c_ialdk hX k (by omega) (cK_b hi) (by rw [cN_b hi]; omega) (by omega) dX1_countHoles_17 ?_
        refine g_iload_n hX 3 rfl dX1_countHoles_18 rfl ?_
        refine g_iand hX dX1_countHoles_19 ?_
        refine c_callI_S hX [.int ((I (8 + i) k) &&& tr)] (k_J6_bitCount_0f7a4 I ((I (8 + i) k) &&& tr)) gX1_countHoles_J6_bitCount_0f7a4 rfl rfl rfl hd_J6_bitCount_0f7a4.2 ⟨Nat.le_of_ble_eq_true rfl, Nat.le_of_ble_eq_true rfl⟩ ⟨Nat.zero_le _, Nat.zero_le _⟩ rfl (Nat.le_of_ble_eq_true rfl) dX1_countHoles_20 (fun r_20 J_20 h_20 => ?_)
        obtain ⟨rfl, rfl⟩ := h_20
        refine g_iadd hX dX1_countHoles_23 ?_
        refine g_istore_n hX [(2, .int (q + (bcnt ((I (8 + i) k) &&& tr)))), (3, .int (nI k)), (0, .ref (ad (4 + i))), (1, .int tr)] rfl dX1_countHoles_24 rfl (by decide) ?_
        refine g_iinc hX (nI (k + 1)) [(3, .int (nI (k + 1))), (2, .int (q + (bcnt ((I (8 + i) k) &&& tr)))), (0, .ref (ad (4 + i))), (1, .int tr)] (k := 1) rfl (g_inc k) rfl dX1_countHoles_25 (by decide) ?_
        refine g_goto (tgt := 4) hX dX1_countHoles_28 (by decide) ?_
        refine g_lv [0, 1, 2, 3] rfl ?_
        exact ih_4 (k + 1) (q + (bcnt ((I (8 + i) k) &&& tr))) (by omega) (by omega) (by rw [hq]; rfl)
  refine g_lv [0, 1, 2, 3] rfl ?_
  exact lp_4 _ 0 0 (Nat.lt_succ_self _) (Nat.zero_le _) rfl
abbrev rm_X1_countUnlike : Room := { frames := 1, cells := 0, slots := 0, locals := 20 }
theorem hd_X1_countUnlike : yX1_countUnlike.cls = RX1 ∧ yX1_countUnlike.cls ≠ "java/lang/invoke/MethodHandle" ∧ yX1_countUnlike.cls ≠ "java/lang/invoke/VarHandle" ∧ (parseMethodDescriptor yX1_countUnlike.desc).map (fun d => d.parameters.length) = some 1 := by decide +kernel
set_option maxRecDepth 100000 in
set_option maxHeartbeats 4000000 in
theorem k_X1_countUnlike {D : va_G} {dT : Nat → ClassId} {ad : Nat → Nat} (I : Nat → Nat → Int32) (i : Nat) (hi : i < 4) (j : Nat) (hj : j < 4) : KI yX1_countUnlike wsX1_countUnlike rm_X1_countUnlike D dT ad I [.ref (ad (4 + i)), .ref (ad (4 + j))] (fun r J => I = J ∧ sumB (fun r => bcnt (I (8 + i) r ^^^ I (8 + j) r)) 200 = r) := by
  intro l9
  refine ci_of (own := RX1) (cc := cX1_countUnlike) (maxL := 4) (some .int) [(0, .ref (ad (4 + i))), (1, .ref (ad (4 + j)))] (by decide) rfl rfl rfl (Nat.le_of_ble_eq_true rfl) ?_
  intro X hX hE hN
  have q_w1 : Cond.fieldLink RX1 9 "Perforatum$Paper" "bits" "[I" ∈ wsX1_countUnlike := List.mem_of_getElem? (i := 1) rfl
  have q_inX1 : ∀ w ∈ wsX10, w ∈ wsX1_countUnlike := by decide +kernel
  refine g_iconst hX (0) dX1_countUnlike_0 rfl ?_
  refine g_istore_n hX [(2, .int 0), (0, .ref (ad (4 + i))), (1, .ref (ad (4 + j)))] rfl dX1_countUnlike_1 rfl (by decide) ?_
  refine g_iconst hX (0) dX1_countUnlike_2 rfl ?_
  refine g_istore_n hX [(3, .int 0), (2, .int 0), (0, .ref (ad (4 + i))), (1, .ref (ad (4 + j)))] rfl dX1_countUnlike_3 rfl (by decide) ?_
  have lp_4 : ∀ (n9 : Nat) (k : Nat) (q : Int32), 200 - k < n9 → k ≤ 200 → q = sumB (fun r => bcnt (I (8 + i) r ^^^ I (8 + j) r)) k → CG X D dT ad I [(3, .int (nI k)), (2, .int q), (0, .ref (ad (4 + i))), (1, .ref (ad (4 + j)))] 0 0 4 [] := by
    intro n9
    induction n9 with
    | zero => intro k q h9; exact absurd h9 (Nat.not_lt_zero _)
    | succ n9 ih9 =>
      intro k q h9 hk hq
      have ih_4 := ih9
      refine g_iload_n hX 0 rfl dX1_countUnlike_4 rfl ?_
      refine g_sipush hX (200) dX1_countUnlike_5 rfl ?_
      refine g_icmp_ge (tgt := 36) hX dX1_countUnlike_8 (by decide) (fun c_8 => ?_) (fun c_8 => ?_)
      · have c_8 : 200 ≤ k := (nI_leI (a := 200) (b := k) (by omega) (by omega)).mp c_8
        refine g_iload_n hX 1 rfl dX1_countUnlike_36 rfl ?_
        refine g_iret hX hE dX1_countUnlike_37 (by omega) (by omega) ?_
        exact ⟨_, rfl, rfl, by rw [hq, show k = 200 by omega]⟩
      · have c_8 : ¬ 200 ≤ k := fun h9 => c_8 ((nI_leI (a := 200) (b := k) (by omega) (by omega)).mpr h9)
        refine g_iload_n hX 1 rfl dX1_countUnlike_11 rfl ?_
        refine g_aload_n hX 2 rfl dX1_countUnlike_12 rfl ?_
        refine cg_X1_bits hX (by omega) (cK_p hi) q_inX1 q_w1 (cR_b hi) dX1_countUnlike_13 ?_
        refine g_iload_n hX 0 rfl dX1_countUnlike_16 rfl ?_
        refine c_ialdk hX k (by omega) (cK_b hi) (by rw [cN_b hi]; omega) (by omega) dX1_countUnlike_17 ?_
        refine g_aload_n hX 3 rfl dX1_countUnlike_18 rfl ?_
        refine cg_X1_bits hX (by omega) (cK_p hj) q_inX1 q_w1 (cR_b hj) dX1_countUnlike_19 ?_
        refine g_iload_n hX 0 rfl dX1_countUnlike_22 rfl ?_
        refine c_ialdk hX k (by omega) (cK_b hj) (by rw [cN_b hj]; omega) (by omega) dX1_countUnlike_23 ?_
        refine g_ixor hX dX1_countUnlike_24 ?_
        refine c_callI_S hX [.int ((I (8 + i) k) ^^^ (I (8 + j) k))] (k_J6_bitCount_0f7a4 I ((I (8 + i) k) ^^^ (I (8 + j) k))) gX1_countUnlike_J6_bitCount_0f7a4 rfl rfl rfl hd_J6_bitCount_0f7a4.2 ⟨Nat.le_of_ble_eq_true rfl, Nat.le_of_ble_eq_true rfl⟩ ⟨Nat.zero_le _, Nat.zero_le _⟩ rfl (Nat.le_of_ble_eq_true rfl) dX1_countUnlike_25 (fun r_25 J_25 h_25 => ?_)
        obtain ⟨rfl, rfl⟩ := h_25
        refine g_iadd hX dX1_countUnlike_28 ?_
        refine g_istore_n hX [(2, .int (q + (bcnt ((I (8 + i) k) ^^^ (I (8 + j) k))))), (3, .int (nI k)), (0, .ref (ad (4 + i))), (1, .ref (ad (4 + j)))] rfl dX1_countUnlike_29 rfl (by decide) ?_
        refine g_iinc hX (nI (k + 1)) [(3, .int (nI (k + 1))), (2, .int (q + (bcnt ((I (8 + i) k) ^^^ (I (8 + j) k))))), (0, .ref (ad (4 + i))), (1, .ref (ad (4 + j)))] (k := 1) rfl (g_inc k) rfl dX1_countUnlike_30 (by decide) ?_
        refine g_goto (tgt := 4) hX dX1_countUnlike_33 (by decide) ?_
        refine g_lv [0, 1, 2, 3] rfl ?_
        exact ih_4 (k + 1) (q + (bcnt ((I (8 + i) k) ^^^ (I (8 + j) k)))) (by omega) (by omega) (by rw [hq]; rfl)
  refine g_lv [0, 1, 2, 3] rfl ?_
  exact lp_4 _ 0 0 (Nat.lt_succ_self _) (Nat.zero_le _) rfl
abbrev rm_X1_takeHolesOf : Room := { frames := 0, cells := 0, slots := 0, locals := 0 }
theorem hd_X1_takeHolesOf : yX1_takeHolesOf.cls = RX1 ∧ yX1_takeHolesOf.cls ≠ "java/lang/invoke/MethodHandle" ∧ yX1_takeHolesOf.cls ≠ "java/lang/invoke/VarHandle" ∧ (parseMethodDescriptor yX1_takeHolesOf.desc).map (fun d => d.parameters.length) = some 1 := by decide +kernel
set_option maxRecDepth 100000 in
set_option maxHeartbeats 4000000 in
theorem k_X1_takeHolesOf {D : va_G} {dT : Nat → ClassId} {ad : Nat → Nat} (I : Nat → Nat → Int32) (i : Nat) (hi : i < 4) (j : Nat) (hj : j < 4) (hne : i ≠ j) : KV yX1_takeHolesOf wsX1_takeHolesOf rm_X1_takeHolesOf D dT ad I [.ref (ad (4 + i)), .ref (ad (4 + j))] (fun J => upr I (8 + i) (fun r => if r < 200 then I (8 + j) r else I (8 + i) r) = J) := by
  intro l9
  refine cv_of (own := RX1) (cc := cX1_takeHolesOf) (maxL := 3) [(0, .ref (ad (4 + i))), (1, .ref (ad (4 + j)))] (by decide) rfl rfl rfl (Nat.le_of_ble_eq_true rfl) ?_
  intro X hX hE hN
  have q_w1 : Cond.fieldLink RX1 9 "Perforatum$Paper" "bits" "[I" ∈ wsX1_takeHolesOf := List.mem_of_getElem? (i := 1) rfl
  have q_inX1 : ∀ w ∈ wsX10, w ∈ wsX1_takeHolesOf := by decide +kernel
  refine g_iconst hX (0) dX1_takeHolesOf_0 rfl ?_
  refine g_istore_n hX [(2, .int 0), (0, .ref (ad (4 + i))), (1, .ref (ad (4 + j)))] rfl dX1_takeHolesOf_1 rfl (by decide) ?_
  have lp_2 : ∀ (n9 : Nat) (k : Nat) (J : Nat → Nat → Int32), 200 - k < n9 → k ≤ 200 → J = upr I (8 + i) (fun r => if r < k then I (8 + j) r else I (8 + i) r) → CG X D dT ad J [(2, .int (nI k)), (0, .ref (ad (4 + i))), (1, .ref (ad (4 + j)))] 0 0 2 [] := by
    intro n9
    induction n9 with
    | zero => intro k J h9; exact absurd h9 (Nat.not_lt_zero _)
    | succ n9 ih9 =>
      intro k J h9 hk hJ
      have ih_2 := ih9
      refine g_iload_n hX 0 rfl dX1_takeHolesOf_2 rfl ?_
      refine g_sipush hX (200) dX1_takeHolesOf_3 rfl ?_
      refine g_icmp_ge (tgt := 27) hX dX1_takeHolesOf_6 (by decide) (fun c_6 => ?_) (fun c_6 => ?_)
      · have c_6 : 200 ≤ k := (nI_leI (a := 200) (b := k) (by omega) (by omega)).mp c_6
        refine g_vret hX hE dX1_takeHolesOf_27 (by omega) (by omega) ?_
        exact ⟨_, rfl, by rw [hJ, show k = 200 by omega]⟩
      · have c_6 : ¬ 200 ≤ k := fun h9 => c_6 ((nI_leI (a := 200) (b := k) (by omega) (by omega)).mpr h9)
        refine g_aload_n hX 1 rfl dX1_takeHolesOf_9 rfl ?_
        refine cg_X1_bits hX (by omega) (cK_p hi) q_inX1 q_w1 (cR_b hi) dX1_takeHolesOf_10 ?_
        refine g_iload_n hX 0 rfl dX1_takeHolesOf_13 rfl ?_
        refine g_aload_n hX 2 rfl dX1_takeHolesOf_14 rfl ?_
        refine cg_X1_bits hX (by omega) (cK_p hj) q_inX1 q_w1 (cR_b hj) dX1_takeHolesOf_15 ?_
        refine g_iload_n hX 0 rfl dX1_takeHolesOf_18 rfl ?_
        refine c_ialdk hX k (by omega) (cK_b hj) (by rw [cN_b hj]; omega) (by omega) dX1_takeHolesOf_19 ?_
        refine c_iastk hX k (by omega) (cK_b hi) (by rw [cN_b hi]; omega) (by omega) dX1_takeHolesOf_20 ?_
        refine g_iinc hX (nI (k + 1)) [(2, .int (nI (k + 1))), (0, .ref (ad (4 + i))), (1, .ref (ad (4 + j)))] (k := 0) rfl (g_inc k) rfl dX1_takeHolesOf_21 (by decide) ?_
        refine g_goto (tgt := 2) hX dX1_takeHolesOf_24 (by decide) ?_
        refine g_lv [0, 1, 2] rfl ?_
        exact ih_2 (k + 1) (up2 J (8 + i) k (J (8 + j) k)) (by omega) (by omega) (by rw [hJ, upr_n (show 8 + j ≠ 8 + i by omega)]; exact upr_up (if_pos (Nat.lt_succ_self k)) (fun j2 h2 => ite_lt h2))
  refine g_lv [0, 1, 2] rfl ?_
  exact lp_2 _ 0 I (Nat.lt_succ_self _) (Nat.zero_le _) (upr_id (fun _ => if_neg (Nat.not_lt_zero _))).symm
abbrev rm_X1_mendPitches : Room := { frames := 0, cells := 0, slots := 0, locals := 0 }
theorem hd_X1_mendPitches : yX1_mendPitches.cls = RX1 ∧ yX1_mendPitches.cls ≠ "java/lang/invoke/MethodHandle" ∧ yX1_mendPitches.cls ≠ "java/lang/invoke/VarHandle" ∧ (parseMethodDescriptor yX1_mendPitches.desc).map (fun d => d.parameters.length) = some 0 := by decide +kernel
set_option maxRecDepth 100000 in
set_option maxHeartbeats 4000000 in
theorem k_X1_mendPitches {D : va_G} {dT : Nat → ClassId} {ad : Nat → Nat} (I : Nat → Nat → Int32) (i : Nat) (hi : i < 4) : KV yX1_mendPitches wsX1_mendPitches rm_X1_mendPitches D dT ad I [.ref (ad (4 + i))] (fun J => upr I (8 + i) (fun r => if r < 200 then I (8 + i) r &&& (-4096) else I (8 + i) r) = J) := by
  intro l9
  refine cv_of (own := RX1) (cc := cX1_mendPitches) (maxL := 2) [(0, .ref (ad (4 + i)))] (by decide) rfl rfl rfl (Nat.le_of_ble_eq_true rfl) ?_
  intro X hX hE hN
  have q_w1 : Cond.fieldLink RX1 9 "Perforatum$Paper" "bits" "[I" ∈ wsX1_mendPitches := List.mem_of_getElem? (i := 1) rfl
  have q_inX1 : ∀ w ∈ wsX10, w ∈ wsX1_mendPitches := by decide +kernel
  refine g_iconst hX (0) dX1_mendPitches_0 rfl ?_
  refine g_istore_n hX [(1, .int 0), (0, .ref (ad (4 + i)))] rfl dX1_mendPitches_1 rfl (by decide) ?_
  have lp_2 : ∀ (n9 : Nat) (k : Nat) (J : Nat → Nat → Int32), 200 - k < n9 → k ≤ 200 → J = upr I (8 + i) (fun r => if r < k then I (8 + i) r &&& (-4096) else I (8 + i) r) → CG X D dT ad J [(1, .int (nI k)), (0, .ref (ad (4 + i)))] 0 0 2 [] := by
    intro n9
    induction n9 with
    | zero => intro k J h9; exact absurd h9 (Nat.not_lt_zero _)
    | succ n9 ih9 =>
      intro k J h9 hk hJ
      have ih_2 := ih9
      refine g_iload_n hX 0 rfl dX1_mendPitches_2 rfl ?_
      refine g_sipush hX (200) dX1_mendPitches_3 rfl ?_
      refine g_icmp_ge (tgt := 27) hX dX1_mendPitches_6 (by decide) (fun c_6 => ?_) (fun c_6 => ?_)
      · have c_6 : 200 ≤ k := (nI_leI (a := 200) (b := k) (by omega) (by omega)).mp c_6
        refine g_vret hX hE dX1_mendPitches_27 (by omega) (by omega) ?_
        exact ⟨_, rfl, by rw [hJ, show k = 200 by omega]⟩
      · have c_6 : ¬ 200 ≤ k := fun h9 => c_6 ((nI_leI (a := 200) (b := k) (by omega) (by omega)).mpr h9)
        refine g_aload_n hX 1 rfl dX1_mendPitches_9 rfl ?_
        refine cg_X1_bits hX (by omega) (cK_p hi) q_inX1 q_w1 (cR_b hi) dX1_mendPitches_10 ?_
        refine g_iload_n hX 0 rfl dX1_mendPitches_13 rfl ?_
        refine g_dup2 hX dX1_mendPitches_14 rfl rfl ?_
        refine c_ialdk hX k (by omega) (cK_b hi) (by rw [cN_b hi]; omega) (by omega) dX1_mendPitches_15 ?_
        refine g_sipush hX (-4096) dX1_mendPitches_16 rfl ?_
        refine g_iand hX dX1_mendPitches_19 ?_
        refine c_iastk hX k (by omega) (cK_b hi) (by rw [cN_b hi]; omega) (by omega) dX1_mendPitches_20 ?_
        refine g_iinc hX (nI (k + 1)) [(1, .int (nI (k + 1))), (0, .ref (ad (4 + i)))] (k := 0) rfl (g_inc k) rfl dX1_mendPitches_21 (by decide) ?_
        refine g_goto (tgt := 2) hX dX1_mendPitches_24 (by decide) ?_
        refine g_lv [0, 1] rfl ?_
        exact ih_2 (k + 1) (up2 J (8 + i) k ((J (8 + i) k) &&& (-4096))) (by omega) (by omega) (by rw [hJ, upr_s]; exact upr_up (by rw [if_pos (Nat.lt_succ_self k), if_neg (Nat.lt_irrefl k)]) (fun j2 h2 => ite_lt h2))
  refine g_lv [0, 1] rfl ?_
  exact lp_2 _ 0 I (Nat.lt_succ_self _) (Nat.zero_le _) (upr_id (fun _ => if_neg (Nat.not_lt_zero _))).symm
abbrev rm_X1_findBeginnings : Room := { frames := 1, cells := 0, slots := 0, locals := 21 }
theorem hd_X1_findBeginnings : yX1_findBeginnings.cls = RX1 ∧ yX1_findBeginnings.cls ≠ "java/lang/invoke/MethodHandle" ∧ yX1_findBeginnings.cls ≠ "java/lang/invoke/VarHandle" ∧ (parseMethodDescriptor yX1_findBeginnings.desc).map (fun d => d.parameters.length) = some 1 := by decide +kernel
set_option maxRecDepth 100000 in
set_option maxHeartbeats 4000000 in
theorem k_X1_findBeginnings {D : va_G} {dT : Nat → ClassId} {ad : Nat → Nat} (I : Nat → Nat → Int32) (i : Nat) (hi : i < 4) (row : Int32) : KI yX1_findBeginnings wsX1_findBeginnings rm_X1_findBeginnings D dT ad I [.ref (ad (4 + i)), .int row] (fun r J => I = J ∧ fb I i row = r) := by
  intro l9
  refine ci_of (own := RX1) (cc := cX1_findBeginnings) (maxL := 2) (some .int) [(0, .ref (ad (4 + i))), (1, .int row)] (by decide) rfl rfl rfl (Nat.le_of_ble_eq_true rfl) ?_
  intro X hX hE hN
  refine g_aload_n hX 0 rfl dX1_findBeginnings_0 rfl ?_
  refine g_iload_n hX 1 rfl dX1_findBeginnings_1 rfl ?_
  refine c_callI_V hX [.int row] 5 (by omega) (cK_p hi) (by decide) rfl (k_X1_readBits I i hi row) gX1_findBeginnings_X1_readBits rfl rfl rfl hd_X1_readBits ⟨Nat.le_of_ble_eq_true rfl, Nat.le_of_ble_eq_true rfl⟩ ⟨Nat.zero_le _, Nat.zero_le _⟩ rfl (Nat.le_of_ble_eq_true rfl) dX1_findBeginnings_2 (fun r_2 J_2 h_2 => ?_)
  obtain ⟨rfl, rfl⟩ := h_2
  refine g_aload_n hX 0 rfl dX1_findBeginnings_5 rfl ?_
  refine g_iload_n hX 1 rfl dX1_findBeginnings_6 rfl ?_
  refine g_iconst hX (1) dX1_findBeginnings_7 rfl ?_
  refine g_isub hX dX1_findBeginnings_8 ?_
  refine c_callI_V hX [.int (row - 1)] 5 (by omega) (cK_p hi) (by decide) rfl (k_X1_readBits I i hi (row - 1)) gX1_findBeginnings_X1_readBits rfl rfl rfl hd_X1_readBits ⟨Nat.le_of_ble_eq_true rfl, Nat.le_of_ble_eq_true rfl⟩ ⟨Nat.zero_le _, Nat.zero_le _⟩ rfl (Nat.le_of_ble_eq_true rfl) dX1_findBeginnings_9 (fun r_9 J_9 h_9 => ?_)
  obtain ⟨rfl, rfl⟩ := h_9
  refine g_iconst hX (-1) dX1_findBeginnings_12 rfl ?_
  refine g_ixor hX dX1_findBeginnings_13 ?_
  refine g_iand hX dX1_findBeginnings_14 ?_
  refine g_aload_n hX 0 rfl dX1_findBeginnings_15 rfl ?_
  refine g_iload_n hX 1 rfl dX1_findBeginnings_16 rfl ?_
  refine g_iconst hX (2) dX1_findBeginnings_17 rfl ?_
  refine g_isub hX dX1_findBeginnings_18 ?_
  refine c_callI_V hX [.int (row - 2)] 5 (by omega) (cK_p hi) (by decide) rfl (k_X1_readBits I i hi (row - 2)) gX1_findBeginnings_X1_readBits rfl rfl rfl hd_X1_readBits ⟨Nat.le_of_ble_eq_true rfl, Nat.le_of_ble_eq_true rfl⟩ ⟨Nat.zero_le _, Nat.zero_le _⟩ rfl (Nat.le_of_ble_eq_true rfl) dX1_findBeginnings_19 (fun r_19 J_19 h_19 => ?_)
  obtain ⟨rfl, rfl⟩ := h_19
  refine g_iconst hX (-1) dX1_findBeginnings_22 rfl ?_
  refine g_ixor hX dX1_findBeginnings_23 ?_
  refine g_iand hX dX1_findBeginnings_24 ?_
  refine g_sipush hX (4095) dX1_findBeginnings_25 rfl ?_
  refine g_iand hX dX1_findBeginnings_28 ?_
  refine g_iret hX hE dX1_findBeginnings_29 (by omega) (by omega) ?_
  exact ⟨_, rfl, rfl, rfl⟩
abbrev rm_X1_isBeginning : Room := { frames := 2, cells := 0, slots := 0, locals := 42 }
theorem hd_X1_isBeginning : yX1_isBeginning.cls = RX1 ∧ yX1_isBeginning.cls ≠ "java/lang/invoke/MethodHandle" ∧ yX1_isBeginning.cls ≠ "java/lang/invoke/VarHandle" ∧ (parseMethodDescriptor yX1_isBeginning.desc).map (fun d => d.parameters.length) = some 2 := by decide +kernel
set_option maxRecDepth 100000 in
set_option maxHeartbeats 4000000 in
theorem k_X1_isBeginning {D : va_G} {dT : Nat → ClassId} {ad : Nat → Nat} (I : Nat → Nat → Int32) (i : Nat) (hi : i < 4) (row t : Int32) : KI yX1_isBeginning wsX1_isBeginning rm_X1_isBeginning D dT ad I [.ref (ad (4 + i)), .int row, .int t] (fun r J => I = J ∧ isb I i row t = r) := by
  intro l9
  refine ci_of (own := RX1) (cc := cX1_isBeginning) (maxL := 3) (some .boolean) [(0, .ref (ad (4 + i))), (1, .int row), (2, .int t)] (by decide) rfl rfl rfl (Nat.le_of_ble_eq_true rfl) ?_
  intro X hX hE hN
  refine g_aload_n hX 0 rfl dX1_isBeginning_0 rfl ?_
  refine g_iload_n hX 1 rfl dX1_isBeginning_1 rfl ?_
  refine c_callI_V hX [.int row] 5 (by omega) (cK_p hi) (by decide) rfl (k_X1_findBeginnings I i hi row) gX1_isBeginning_X1_findBeginnings rfl rfl rfl hd_X1_findBeginnings ⟨Nat.le_of_ble_eq_true rfl, Nat.le_of_ble_eq_true rfl⟩ ⟨Nat.zero_le _, Nat.zero_le _⟩ rfl (Nat.le_of_ble_eq_true rfl) dX1_isBeginning_2 (fun r_2 J_2 h_2 => ?_)
  obtain ⟨rfl, rfl⟩ := h_2
  refine g_iload_n hX 2 rfl dX1_isBeginning_5 rfl ?_
  refine g_ishr hX dX1_isBeginning_6 ?_
  refine g_iconst hX (1) dX1_isBeginning_7 rfl ?_
  refine g_iand hX dX1_isBeginning_8 ?_
  refine g_if_eq (tgt := 16) hX dX1_isBeginning_9 (by decide) (fun c_9 => ?_) (fun c_9 => ?_)
  · refine g_iconst hX (0) dX1_isBeginning_16 rfl ?_
    refine g_zret hX rfl hE dX1_isBeginning_17 (by omega) (by omega) ?_
    exact ⟨_, rfl, rfl, by simp only [isb, c_9, if_true, if_false]⟩
  · refine g_iconst hX (1) dX1_isBeginning_12 rfl ?_
    refine g_goto (tgt := 17) hX dX1_isBeginning_13 (by decide) ?_
    refine g_zret hX rfl hE dX1_isBeginning_17 (by omega) (by omega) ?_
    exact ⟨_, rfl, rfl, by simp only [isb, c_9, if_true, if_false]⟩
abbrev rm_X1_countNotes : Room := { frames := 2, cells := 0, slots := 0, locals := 42 }
theorem hd_X1_countNotes : yX1_countNotes.cls = RX1 ∧ yX1_countNotes.cls ≠ "java/lang/invoke/MethodHandle" ∧ yX1_countNotes.cls ≠ "java/lang/invoke/VarHandle" ∧ (parseMethodDescriptor yX1_countNotes.desc).map (fun d => d.parameters.length) = some 0 := by decide +kernel
set_option maxRecDepth 100000 in
set_option maxHeartbeats 4000000 in
theorem k_X1_countNotes {D : va_G} {dT : Nat → ClassId} {ad : Nat → Nat} (I : Nat → Nat → Int32) (i : Nat) (hi : i < 4) : KI yX1_countNotes wsX1_countNotes rm_X1_countNotes D dT ad I [.ref (ad (4 + i))] (fun r J => I = J ∧ sumB (fun r => bcnt (fb I i (nI r))) 200 = r) := by
  intro l9
  refine ci_of (own := RX1) (cc := cX1_countNotes) (maxL := 3) (some .int) [(0, .ref (ad (4 + i)))] (by decide) rfl rfl rfl (Nat.le_of_ble_eq_true rfl) ?_
  intro X hX hE hN
  refine g_iconst hX (0) dX1_countNotes_0 rfl ?_
  refine g_istore_n hX [(1, .int 0), (0, .ref (ad (4 + i)))] rfl dX1_countNotes_1 rfl (by decide) ?_
  refine g_iconst hX (0) dX1_countNotes_2 rfl ?_
  refine g_istore_n hX [(2, .int 0), (1, .int 0), (0, .ref (ad (4 + i)))] rfl dX1_countNotes_3 rfl (by decide) ?_
  have lp_4 : ∀ (n9 : Nat) (k : Nat) (q : Int32), 200 - k < n9 → k ≤ 200 → q = sumB (fun r => bcnt (fb I i (nI r))) k → CG X D dT ad I [(2, .int (nI k)), (1, .int q), (0, .ref (ad (4 + i)))] 0 0 4 [] := by
    intro n9
    induction n9 with
    | zero => intro k q h9; exact absurd h9 (Nat.not_lt_zero _)
    | succ n9 ih9 =>
      intro k q h9 hk hq
      have ih_4 := ih9
      refine g_iload_n hX 0 rfl dX1_countNotes_4 rfl ?_
      refine g_sipush hX (200) dX1_countNotes_5 rfl ?_
      refine g_icmp_ge (tgt := 28) hX dX1_countNotes_8 (by decide) (fun c_8 => ?_) (fun c_8 => ?_)
      · have c_8 : 200 ≤ k := (nI_leI (a := 200) (b := k) (by omega) (by omega)).mp c_8
        refine g_iload_n hX 1 rfl dX1_countNotes_28 rfl ?_
        refine g_iret hX hE dX1_countNotes_29 (by omega) (by omega) ?_
        exact ⟨_, rfl, rfl, by rw [hq, show k = 200 by omega]⟩
      · have c_8 : ¬ 200 ≤ k := fun h9 => c_8 ((nI_leI (a := 200) (b := k) (by omega) (by omega)).mpr h9)
        refine g_iload_n hX 1 rfl dX1_countNotes_11 rfl ?_
        refine g_aload_n hX 2 rfl dX1_countNotes_12 rfl ?_
        refine g_iload_n hX 0 rfl dX1_countNotes_13 rfl ?_
        refine c_callI_V hX [.int (nI k)] 5 (by omega) (cK_p hi) (by decide) rfl (k_X1_findBeginnings I i hi (nI k)) gX1_countNotes_X1_findBeginnings rfl rfl rfl hd_X1_findBeginnings ⟨Nat.le_of_ble_eq_true rfl, Nat.le_of_ble_eq_true rfl⟩ ⟨Nat.zero_le _, Nat.zero_le _⟩ rfl (Nat.le_of_ble_eq_true rfl) dX1_countNotes_14 (fun r_14 J_14 h_14 => ?_)
        obtain ⟨rfl, rfl⟩ := h_14
        refine c_callI_S hX [.int (fb I i (nI k))] (k_J6_bitCount_0f7a4 I (fb I i (nI k))) gX1_countNotes_J6_bitCount_0f7a4 rfl rfl rfl hd_J6_bitCount_0f7a4.2 ⟨Nat.le_of_ble_eq_true rfl, Nat.le_of_ble_eq_true rfl⟩ ⟨Nat.zero_le _, Nat.zero_le _⟩ rfl (Nat.le_of_ble_eq_true rfl) dX1_countNotes_17 (fun r_17 J_17 h_17 => ?_)
        obtain ⟨rfl, rfl⟩ := h_17
        refine g_iadd hX dX1_countNotes_20 ?_
        refine g_istore_n hX [(1, .int (q + (bcnt (fb I i (nI k))))), (2, .int (nI k)), (0, .ref (ad (4 + i)))] rfl dX1_countNotes_21 rfl (by decide) ?_
        refine g_iinc hX (nI (k + 1)) [(2, .int (nI (k + 1))), (1, .int (q + (bcnt (fb I i (nI k))))), (0, .ref (ad (4 + i)))] (k := 1) rfl (g_inc k) rfl dX1_countNotes_22 (by decide) ?_
        refine g_goto (tgt := 4) hX dX1_countNotes_25 (by decide) ?_
        refine g_lv [0, 1, 2] rfl ?_
        exact ih_4 (k + 1) (q + (bcnt (fb I i (nI k)))) (by omega) (by omega) (by rw [hq]; rfl)
  refine g_lv [0, 1, 2] rfl ?_
  exact lp_4 _ 0 0 (Nat.lt_succ_self _) (Nat.zero_le _) rfl
abbrev rm_X1_findBit : Room := { frames := 0, cells := 0, slots := 0, locals := 0 }
theorem hd_X1_findBit : yX1_findBit.cls = RX1 ∧ yX1_findBit.cls ≠ "java/lang/invoke/MethodHandle" ∧ yX1_findBit.cls ≠ "java/lang/invoke/VarHandle" ∧ (parseMethodDescriptor yX1_findBit.desc).map (fun d => d.parameters.length) = some 2 := by decide +kernel
set_option maxRecDepth 100000 in
set_option maxHeartbeats 4000000 in
theorem k_X1_findBit {D : va_G} {dT : Nat → ClassId} {ad : Nat → Nat} (I : Nat → Nat → Int32) (b left : Int32) : KI yX1_findBit wsX1_findBit rm_X1_findBit D dT ad I [.int b, .int left] (fun r J => I = J ∧ fbit b 12 0 left = r) := by
  intro l9
  refine ci_of (own := RX1) (cc := cX1_findBit) (maxL := 4) (some .int) [(0, .int b), (1, .int left)] (by decide) rfl rfl rfl (Nat.le_of_ble_eq_true rfl) ?_
  intro X hX hE hN
  refine g_iload_n hX 1 rfl dX1_findBit_0 rfl ?_
  refine g_istore_n hX [(2, .int left), (0, .int b), (1, .int left)] rfl dX1_findBit_1 rfl (by decide) ?_
  refine g_iconst hX (0) dX1_findBit_2 rfl ?_
  refine g_istore_n hX [(3, .int 0), (2, .int left), (0, .int b), (1, .int left)] rfl dX1_findBit_3 rfl (by decide) ?_
  have lp_4 : ∀ (n9 : Nat) (k : Nat) (q : Int32), 12 - k < n9 → k ≤ 12 → fbit b 12 0 left = fbit b (12 - k) k q → CG X D dT ad I [(3, .int (nI k)), (2, .int q), (0, .int b), (1, .int left)] 0 0 4 [] := by
    intro n9
    induction n9 with
    | zero => intro k q h9; exact absurd h9 (Nat.not_lt_zero _)
    | succ n9 ih9 =>
      intro k q h9 hk hs
      have ih_4 := ih9
      refine g_iload_n hX 0 rfl dX1_findBit_4 rfl ?_
      refine g_bipush hX (12) dX1_findBit_5 rfl ?_
      refine g_icmp_ge (tgt := 33) hX dX1_findBit_7 (by decide) (fun c_7 => ?_) (fun c_7 => ?_)
      · have c_7 : 12 ≤ k := (nI_leI (a := 12) (b := k) (by omega) (by omega)).mp c_7
        refine g_iconst hX (0) dX1_findBit_33 rfl ?_
        refine g_iret hX hE dX1_findBit_34 (by omega) (by omega) ?_
        exact ⟨_, rfl, rfl, by rw [hs, show 12 - k = 0 by omega]; rfl⟩
      · have c_7 : ¬ 12 ≤ k := fun h9 => c_7 ((nI_leI (a := 12) (b := k) (by omega) (by omega)).mpr h9)
        refine g_iload_n hX 2 rfl dX1_findBit_10 rfl ?_
        refine g_iload_n hX 0 rfl dX1_findBit_11 rfl ?_
        refine g_ishr hX dX1_findBit_12 ?_
        refine g_iconst hX (1) dX1_findBit_13 rfl ?_
        refine g_iand hX dX1_findBit_14 ?_
        refine g_if_eq (tgt := 27) hX dX1_findBit_15 (by decide) (fun c_15 => ?_) (fun c_15 => ?_)
        · refine g_iinc hX (nI (k + 1)) [(3, .int (nI (k + 1))), (2, .int q), (0, .int b), (1, .int left)] (k := 0) rfl (g_inc k) rfl dX1_findBit_27 (by decide) ?_
          refine g_goto (tgt := 4) hX dX1_findBit_30 (by decide) ?_
          refine g_lv [0, 1, 2, 3] rfl ?_
          exact ih_4 (k + 1) q (by omega) (by omega) (hs.trans (by rw [show 12 - k = (12 - (k + 1)) + 1 by omega, fbit]; simp only [*, if_true, if_false]))
        · refine g_iload_n hX 1 rfl dX1_findBit_18 rfl ?_
          refine g_if_ne (tgt := 24) hX dX1_findBit_19 (by decide) (fun c_19 => ?_) (fun c_19 => ?_)
          · refine g_iinc hX (q + (-1)) [(2, .int (q + (-1))), (3, .int (nI k)), (0, .int b), (1, .int left)] (k := 1) rfl (g_dec q) rfl dX1_findBit_24 (by decide) ?_
            refine g_iinc hX (nI (k + 1)) [(3, .int (nI (k + 1))), (2, .int (q + (-1))), (0, .int b), (1, .int left)] (k := 1) rfl (g_inc k) rfl dX1_findBit_27 (by decide) ?_
            refine g_goto (tgt := 4) hX dX1_findBit_30 (by decide) ?_
            refine g_lv [0, 1, 2, 3] rfl ?_
            exact ih_4 (k + 1) (q + (-1)) (by omega) (by omega) (hs.trans (by rw [show 12 - k = (12 - (k + 1)) + 1 by omega, fbit]; simp only [*, if_true, if_false]))
          · refine g_iload_n hX 0 rfl dX1_findBit_22 rfl ?_
            refine g_iret hX hE dX1_findBit_23 (by omega) (by omega) ?_
            exact ⟨_, rfl, rfl, by rw [hs, show 12 - k = (12 - (k + 1)) + 1 by omega, fbit, if_neg c_15, if_pos c_19]⟩
  refine g_lv [0, 1, 2, 3] rfl ?_
  exact lp_4 _ 0 left (Nat.lt_succ_self _) (Nat.zero_le _) rfl
abbrev rm_X1_findNote : Room := { frames := 2, cells := 0, slots := 0, locals := 42 }
theorem hd_X1_findNote : yX1_findNote.cls = RX1 ∧ yX1_findNote.cls ≠ "java/lang/invoke/MethodHandle" ∧ yX1_findNote.cls ≠ "java/lang/invoke/VarHandle" ∧ (parseMethodDescriptor yX1_findNote.desc).map (fun d => d.parameters.length) = some 1 := by decide +kernel
set_option maxRecDepth 100000 in
set_option maxHeartbeats 4000000 in
theorem k_X1_findNote {D : va_G} {dT : Nat → ClassId} {ad : Nat → Nat} (I : Nat → Nat → Int32) (i : Nat) (hi : i < 4) (ix : Int32) : KI yX1_findNote wsX1_findNote rm_X1_findNote D dT ad I [.ref (ad (4 + i)), .int ix] (fun r J => I = J ∧ fnote I i ix = r) := by
  intro l9
  refine ci_of (own := RX1) (cc := cX1_findNote) (maxL := 6) (some .int) [(0, .ref (ad (4 + i))), (1, .int ix)] (by decide) rfl rfl rfl (Nat.le_of_ble_eq_true rfl) ?_
  intro X hX hE hN
  refine g_iload_n hX 1 rfl dX1_findNote_0 rfl ?_
  refine g_if_ge (tgt := 6) hX dX1_findNote_1 (by decide) (fun c_1 => ?_) (fun c_1 => ?_)
  · refine g_iload_n hX 1 rfl dX1_findNote_6 rfl ?_
    refine g_istore_n hX [(2, .int ix), (0, .ref (ad (4 + i))), (1, .int ix)] rfl dX1_findNote_7 rfl (by decide) ?_
    refine g_iconst hX (0) dX1_findNote_8 rfl ?_
    refine g_istore_n hX [(3, .int 0), (2, .int ix), (0, .ref (ad (4 + i))), (1, .int ix)] rfl dX1_findNote_9 rfl (by decide) ?_
    have lp_10 : ∀ (n9 : Nat) (k : Nat) (q : Int32), 200 - k < n9 → k ≤ 200 → fnw I i 200 0 ix = fnw I i (200 - k) k q → CG X D dT ad I [(3, .int (nI k)), (2, .int q), (0, .ref (ad (4 + i))), (1, .int ix)] 0 0 10 [] := by
      intro n9
      induction n9 with
      | zero => intro k q h9; exact absurd h9 (Nat.not_lt_zero _)
      | succ n9 ih9 =>
        intro k q h9 hk hs
        have ih_10 := ih9
        refine g_iload_n hX 0 rfl dX1_findNote_10 rfl ?_
        refine g_sipush hX (200) dX1_findNote_11 rfl ?_
        refine g_icmp_ge (tgt := 60) hX dX1_findNote_14 (by decide) (fun c_14 => ?_) (fun c_14 => ?_)
        · have c_14 : 200 ≤ k := (nI_leI (a := 200) (b := k) (by omega) (by omega)).mp c_14
          refine g_iconst hX (-1) dX1_findNote_60 rfl ?_
          refine g_iret hX hE dX1_findNote_61 (by omega) (by omega) ?_
          exact ⟨_, rfl, rfl, by rw [fnote, if_pos c_1, hs, show 200 - k = 0 by omega]; rfl⟩
        · have c_14 : ¬ 200 ≤ k := fun h9 => c_14 ((nI_leI (a := 200) (b := k) (by omega) (by omega)).mpr h9)
          refine g_aload_n hX 2 rfl dX1_findNote_17 rfl ?_
          refine g_iload_n hX 0 rfl dX1_findNote_18 rfl ?_
          refine c_callI_V hX [.int (nI k)] 5 (by omega) (cK_p hi) (by decide) rfl (k_X1_findBeginnings I i hi (nI k)) gX1_findNote_X1_findBeginnings rfl rfl rfl hd_X1_findBeginnings ⟨Nat.le_of_ble_eq_true rfl, Nat.le_of_ble_eq_true rfl⟩ ⟨Nat.zero_le _, Nat.zero_le _⟩ rfl (Nat.le_of_ble_eq_true rfl) dX1_findNote_19 (fun r_19 J_19 h_19 => ?_)
          obtain ⟨rfl, rfl⟩ := h_19
          refine g_istore hX [(4, .int (fb I i (nI k))), (3, .int (nI k)), (2, .int q), (0, .ref (ad (4 + i))), (1, .int ix)] rfl dX1_findNote_22 (by decide) ?_
          refine g_iload hX 0 rfl dX1_findNote_24 ?_
          refine c_callI_S hX [.int (fb I i (nI k))] (k_J6_bitCount_0f7a4 I (fb I i (nI k))) gX1_findNote_J6_bitCount_0f7a4 rfl rfl rfl hd_J6_bitCount_0f7a4.2 ⟨Nat.le_of_ble_eq_true rfl, Nat.le_of_ble_eq_true rfl⟩ ⟨Nat.zero_le _, Nat.zero_le _⟩ rfl (Nat.le_of_ble_eq_true rfl) dX1_findNote_26 (fun r_26 J_26 h_26 => ?_)
          obtain ⟨rfl, rfl⟩ := h_26
          refine g_istore hX [(5, .int (bcnt (fb I i (nI k)))), (4, .int (fb I i (nI k))), (3, .int (nI k)), (2, .int q), (0, .ref (ad (4 + i))), (1, .int ix)] rfl dX1_findNote_29 (by decide) ?_
          refine g_iload_n hX 3 rfl dX1_findNote_31 rfl ?_
          refine g_iload hX 0 rfl dX1_findNote_32 ?_
          refine g_icmp_ge (tgt := 49) hX dX1_findNote_34 (by decide) (fun c_34 => ?_) (fun c_34 => ?_)
          · refine g_iload_n hX 3 rfl dX1_findNote_49 rfl ?_
            refine g_iload hX 0 rfl dX1_findNote_50 ?_
            refine g_isub hX dX1_findNote_52 ?_
            refine g_istore_n hX [(2, .int (q - (bcnt (fb I i (nI k))))), (5, .int (bcnt (fb I i (nI k)))), (4, .int (fb I i (nI k))), (3, .int (nI k)), (0, .ref (ad (4 + i))), (1, .int ix)] rfl dX1_findNote_53 rfl (by decide) ?_
            refine g_iinc hX (nI (k + 1)) [(3, .int (nI (k + 1))), (2, .int (q - (bcnt (fb I i (nI k))))), (5, .int (bcnt (fb I i (nI k)))), (4, .int (fb I i (nI k))), (0, .ref (ad (4 + i))), (1, .int ix)] (k := 3) rfl (g_inc k) rfl dX1_findNote_54 (by decide) ?_
            refine g_goto (tgt := 10) hX dX1_findNote_57 (by decide) ?_
            refine g_lv [0, 1, 4, 5] rfl ?_
            exact ih_10 (k + 1) (q - (bcnt (fb I i (nI k)))) (by omega) (by omega) (hs.trans (by rw [show 200 - k = (200 - (k + 1)) + 1 by omega, fnw, if_pos c_34]))
          · refine g_iload_n hX 2 rfl dX1_findNote_37 rfl ?_
            refine g_bipush hX (16) dX1_findNote_38 rfl ?_
            refine g_imul hX dX1_findNote_40 ?_
            refine g_iload hX 1 rfl dX1_findNote_41 ?_
            refine g_iload_n hX 3 rfl dX1_findNote_43 rfl ?_
            refine c_callI_S hX [.int (fb I i (nI k)), .int q] (k_X1_findBit I (fb I i (nI k)) q) gX1_findNote_X1_findBit rfl rfl rfl hd_X1_findBit.2 ⟨Nat.le_of_ble_eq_true rfl, Nat.le_of_ble_eq_true rfl⟩ ⟨Nat.zero_le _, Nat.zero_le _⟩ rfl (Nat.le_of_ble_eq_true rfl) dX1_findNote_44 (fun r_44 J_44 h_44 => ?_)
            obtain ⟨rfl, rfl⟩ := h_44
            refine g_iadd hX dX1_findNote_47 ?_
            refine g_iret hX hE dX1_findNote_48 (by omega) (by omega) ?_
            exact ⟨_, rfl, rfl, by rw [fnote, if_pos c_1, hs, show 200 - k = (200 - (k + 1)) + 1 by omega, fnw, if_neg c_34]⟩
    refine g_lv [0, 1, 2, 3] rfl ?_
    exact lp_10 _ 0 ix (Nat.lt_succ_self _) (Nat.zero_le _) rfl
  · refine g_iconst hX (-1) dX1_findNote_4 rfl ?_
    refine g_iret hX hE dX1_findNote_5 (by omega) (by omega) ?_
    exact ⟨_, rfl, rfl, by rw [fnote, if_neg c_1]⟩
abbrev rm_X1_measureNote : Room := { frames := 2, cells := 0, slots := 0, locals := 43 }
theorem hd_X1_measureNote : yX1_measureNote.cls = RX1 ∧ yX1_measureNote.cls ≠ "java/lang/invoke/MethodHandle" ∧ yX1_measureNote.cls ≠ "java/lang/invoke/VarHandle" ∧ (parseMethodDescriptor yX1_measureNote.desc).map (fun d => d.parameters.length) = some 2 := by decide +kernel
set_option maxRecDepth 100000 in
set_option maxHeartbeats 4000000 in
theorem k_X1_measureNote {D : va_G} {dT : Nat → ClassId} {ad : Nat → Nat} (I : Nat → Nat → Int32) (i : Nat) (hi : i < 4) (a : Nat) (ha : a < 200) (t : Int32) : KI yX1_measureNote wsX1_measureNote rm_X1_measureNote D dT ad I [.ref (ad (4 + i)), .int (nI a), .int t] (fun r J => I = J ∧ nI (mnw I i t (199 - a) (a + 1) a) - nI a + 1 = r) := by
  intro l9
  refine ci_of (own := RX1) (cc := cX1_measureNote) (maxL := 5) (some .int) [(0, .ref (ad (4 + i))), (1, .int (nI a)), (2, .int t)] (by decide) rfl rfl rfl (Nat.le_of_ble_eq_true rfl) ?_
  intro X hX hE hN
  refine g_iload_n hX 1 rfl dX1_measureNote_0 rfl ?_
  refine g_istore_n hX [(3, .int (nI a)), (0, .ref (ad (4 + i))), (1, .int (nI a)), (2, .int t)] rfl dX1_measureNote_1 rfl (by decide) ?_
  refine g_iload_n hX 2 rfl dX1_measureNote_2 rfl ?_
  refine g_iconst hX (1) dX1_measureNote_3 rfl ?_
  refine g_iadd hX dX1_measureNote_4 ?_
  refine g_eqi (y := nI (a + 1)) (nI_1 a) ?_
  refine g_istore hX [(4, .int (nI (a + 1))), (3, .int (nI a)), (0, .ref (ad (4 + i))), (1, .int (nI a)), (2, .int t)] rfl dX1_measureNote_5 (by decide) ?_
  have lp_7 : ∀ (n9 : Nat) (k : Nat) (q : Nat), 200 - k < n9 → k ≤ 200 → mnw I i t (199 - a) (a + 1) a = mnw I i t (200 - k) k q → CG X D dT ad I [(4, .int (nI k)), (3, .int (nI q)), (0, .ref (ad (4 + i))), (1, .int (nI a)), (2, .int t)] 0 0 7 [] := by
    intro n9
    induction n9 with
    | zero => intro k q h9; exact absurd h9 (Nat.not_lt_zero _)
    | succ n9 ih9 =>
      intro k q h9 hk hs
      have ih_7 := ih9
      refine g_iload hX 0 rfl dX1_measureNote_7 ?_
      refine g_sipush hX (200) dX1_measureNote_9 rfl ?_
      refine g_icmp_ge (tgt := 48) hX dX1_measureNote_12 (by decide) (fun c_12 => ?_) (fun c_12 => ?_)
      · have c_12 : 200 ≤ k := (nI_leI (a := 200) (b := k) (by omega) (by omega)).mp c_12
        refine g_iload_n hX 1 rfl dX1_measureNote_48 rfl ?_
        refine g_iload_n hX 3 rfl dX1_measureNote_49 rfl ?_
        refine g_isub hX dX1_measureNote_50 ?_
        refine g_iconst hX (1) dX1_measureNote_51 rfl ?_
        refine g_iadd hX dX1_measureNote_52 ?_
        refine g_iret hX hE dX1_measureNote_53 (by omega) (by omega) ?_
        exact ⟨_, rfl, rfl, by rw [hs, show 200 - k = 0 by omega]; rfl⟩
      · have c_12 : ¬ 200 ≤ k := fun h9 => c_12 ((nI_leI (a := 200) (b := k) (by omega) (by omega)).mpr h9)
        refine g_aload_n hX 2 rfl dX1_measureNote_15 rfl ?_
        refine g_iload hX 0 rfl dX1_measureNote_16 ?_
        refine g_iload_n hX 4 rfl dX1_measureNote_18 rfl ?_
        refine c_callI_V hX [.int (nI k), .int t] 5 (by omega) (cK_p hi) (by decide) rfl (k_X1_hasHole I i hi (nI k) t) gX1_measureNote_X1_hasHole rfl rfl rfl hd_X1_hasHole ⟨Nat.le_of_ble_eq_true rfl, Nat.le_of_ble_eq_true rfl⟩ ⟨Nat.zero_le _, Nat.zero_le _⟩ rfl (Nat.le_of_ble_eq_true rfl) dX1_measureNote_19 (fun r_19 J_19 h_19 => ?_)
        obtain ⟨rfl, rfl⟩ := h_19
        refine g_if_eq (tgt := 31) hX dX1_measureNote_22 (by decide) (fun c_22 => ?_) (fun c_22 => ?_)
        · refine g_iload hX 0 rfl dX1_measureNote_31 ?_
          refine g_iload_n hX 1 rfl dX1_measureNote_33 rfl ?_
          refine g_isub hX dX1_measureNote_34 ?_
          refine g_iconst hX (2) dX1_measureNote_35 rfl ?_
          refine g_icmp_lt (tgt := 42) hX dX1_measureNote_36 (by decide) (fun c_36 => ?_) (fun c_36 => ?_)
          · refine g_iinc hX (nI (k + 1)) [(4, .int (nI (k + 1))), (3, .int (nI q)), (0, .ref (ad (4 + i))), (1, .int (nI a)), (2, .int t)] (k := 0) rfl (g_inc k) rfl dX1_measureNote_42 (by decide) ?_
            refine g_goto (tgt := 7) hX dX1_measureNote_45 (by decide) ?_
            refine g_lv [0, 1, 2, 3, 4] rfl ?_
            exact ih_7 (k + 1) q (by omega) (by omega) (hs.trans (by rw [show 200 - k = (200 - (k + 1)) + 1 by omega, mnw]; simp only [*, if_true, if_false]))
          · refine g_goto (tgt := 48) hX dX1_measureNote_39 (by decide) ?_
            refine g_iload_n hX 1 rfl dX1_measureNote_48 rfl ?_
            refine g_iload_n hX 3 rfl dX1_measureNote_49 rfl ?_
            refine g_isub hX dX1_measureNote_50 ?_
            refine g_iconst hX (1) dX1_measureNote_51 rfl ?_
            refine g_iadd hX dX1_measureNote_52 ?_
            refine g_iret hX hE dX1_measureNote_53 (by omega) (by omega) ?_
            exact ⟨_, rfl, rfl, by rw [hs, show 200 - k = (200 - (k + 1)) + 1 by omega, mnw, if_pos c_22, if_neg c_36]⟩
        · refine g_iload hX 0 rfl dX1_measureNote_25 ?_
          refine g_istore_n hX [(3, .int (nI k)), (4, .int (nI k)), (0, .ref (ad (4 + i))), (1, .int (nI a)), (2, .int t)] rfl dX1_measureNote_27 rfl (by decide) ?_
          refine g_goto (tgt := 42) hX dX1_measureNote_28 (by decide) ?_
          refine g_iinc hX (nI (k + 1)) [(4, .int (nI (k + 1))), (3, .int (nI k)), (0, .ref (ad (4 + i))), (1, .int (nI a)), (2, .int t)] (k := 1) rfl (g_inc k) rfl dX1_measureNote_42 (by decide) ?_
          refine g_goto (tgt := 7) hX dX1_measureNote_45 (by decide) ?_
          refine g_lv [0, 1, 2, 3, 4] rfl ?_
          exact ih_7 (k + 1) k (by omega) (by omega) (hs.trans (by rw [show 200 - k = (200 - (k + 1)) + 1 by omega, mnw]; simp only [*, if_true, if_false]))
  refine g_lv [0, 1, 2, 3, 4] rfl ?_
  exact lp_7 _ (a + 1) a (Nat.lt_succ_self _) ha (by rw [show 200 - (a + 1) = 199 - a by omega])
abbrev rm_X1_addRowToSum : Room := { frames := 2, cells := 0, slots := 0, locals := 43 }
theorem hd_X1_addRowToSum : yX1_addRowToSum.cls = RX1 ∧ yX1_addRowToSum.cls ≠ "java/lang/invoke/MethodHandle" ∧ yX1_addRowToSum.cls ≠ "java/lang/invoke/VarHandle" ∧ (parseMethodDescriptor yX1_addRowToSum.desc).map (fun d => d.parameters.length) = some 2 := by decide +kernel
set_option maxRecDepth 100000 in
set_option maxHeartbeats 4000000 in
theorem k_X1_addRowToSum {D : va_G} {dT : Nat → ClassId} {ad : Nat → Nat} (I : Nat → Nat → Int32) (i : Nat) (hi : i < 4) (sm : Int64) (r : Nat) : KL yX1_addRowToSum wsX1_addRowToSum rm_X1_addRowToSum D dT ad I [.ref (ad (4 + i)), .long sm, .int (nI r)] (fun q J => I = J ∧ ars I i sm r 16 = q) := by
  intro l9
  refine cl_of (own := RX1) (cc := cX1_addRowToSum) (maxL := 7) [(0, .ref (ad (4 + i))), (1, .long sm), (3, .int (nI r))] (by decide) rfl rfl rfl (Nat.le_of_ble_eq_true rfl) ?_
  intro X hX hE hN
  have q_w1 : Cond.constantLong RX1 39 (31) ∈ wsX1_addRowToSum := List.mem_of_getElem? (i := 1) rfl
  refine g_lload_n hX 1 rfl dX1_addRowToSum_0 rfl ?_
  refine g_lstore hX [(4, .long sm), (0, .ref (ad (4 + i))), (1, .long sm), (3, .int (nI r))] rfl dX1_addRowToSum_1 (by decide) ?_
  refine g_iconst hX (0) dX1_addRowToSum_3 rfl ?_
  refine g_istore hX [(6, .int 0), (4, .long sm), (0, .ref (ad (4 + i))), (1, .long sm), (3, .int (nI r))] rfl dX1_addRowToSum_4 (by decide) ?_
  have lp_6 : ∀ (n9 : Nat) (k : Nat) (q : Int64), 16 - k < n9 → k ≤ 16 → q = ars I i sm r k → CG X D dT ad I [(6, .int (nI k)), (4, .long q), (0, .ref (ad (4 + i))), (1, .long sm), (3, .int (nI r))] 0 0 6 [] := by
    intro n9
    induction n9 with
    | zero => intro k q h9; exact absurd h9 (Nat.not_lt_zero _)
    | succ n9 ih9 =>
      intro k q h9 hk hq
      have ih_6 := ih9
      refine g_iload hX 0 rfl dX1_addRowToSum_6 ?_
      refine g_bipush hX (16) dX1_addRowToSum_8 rfl ?_
      refine g_icmp_ge (tgt := 47) hX dX1_addRowToSum_10 (by decide) (fun c_10 => ?_) (fun c_10 => ?_)
      · have c_10 : 16 ≤ k := (nI_leI (a := 16) (b := k) (by omega) (by omega)).mp c_10
        refine g_lload hX 1 rfl dX1_addRowToSum_47 ?_
        refine g_lret hX hE dX1_addRowToSum_49 (by omega) (by omega) ?_
        exact ⟨_, rfl, rfl, by rw [hq, show k = 16 by omega]⟩
      · have c_10 : ¬ 16 ≤ k := fun h9 => c_10 ((nI_leI (a := 16) (b := k) (by omega) (by omega)).mpr h9)
        refine g_aload_n hX 2 rfl dX1_addRowToSum_13 rfl ?_
        refine g_iload_n hX 4 rfl dX1_addRowToSum_14 rfl ?_
        refine g_iload hX 0 rfl dX1_addRowToSum_15 ?_
        refine c_callI_V hX [.int (nI r), .int (nI k)] 5 (by omega) (cK_p hi) (by decide) rfl (k_X1_hasHole I i hi (nI r) (nI k)) gX1_addRowToSum_X1_hasHole rfl rfl rfl hd_X1_hasHole ⟨Nat.le_of_ble_eq_true rfl, Nat.le_of_ble_eq_true rfl⟩ ⟨Nat.zero_le _, Nat.zero_le _⟩ rfl (Nat.le_of_ble_eq_true rfl) dX1_addRowToSum_17 (fun r_17 J_17 h_17 => ?_)
        obtain ⟨rfl, rfl⟩ := h_17
        refine g_if_eq (tgt := 41) hX dX1_addRowToSum_20 (by decide) (fun c_20 => ?_) (fun c_20 => ?_)
        · refine g_iinc hX (nI (k + 1)) [(6, .int (nI (k + 1))), (4, .long q), (0, .ref (ad (4 + i))), (1, .long sm), (3, .int (nI r))] (k := 0) rfl (g_inc k) rfl dX1_addRowToSum_41 (by decide) ?_
          refine g_goto (tgt := 6) hX dX1_addRowToSum_44 (by decide) ?_
          refine g_lv [0, 1, 2, 3, 4] rfl ?_
          exact ih_6 (k + 1) q (by omega) (by omega) (by rw [ars, hq]; simp only [c_20, if_true, if_false])
        · refine g_ldc2 hX (31) q_w1 dX1_addRowToSum_23 ?_
          refine g_lload hX 1 rfl dX1_addRowToSum_26 ?_
          refine g_lmul hX dX1_addRowToSum_28 ?_
          refine g_bipush hX (16) dX1_addRowToSum_29 rfl ?_
          refine g_iload_n hX 4 rfl dX1_addRowToSum_31 rfl ?_
          refine g_imul hX dX1_addRowToSum_32 ?_
          refine g_i2l hX dX1_addRowToSum_33 ?_
          refine g_ladd hX dX1_addRowToSum_34 ?_
          refine g_iload hX 0 rfl dX1_addRowToSum_35 ?_
          refine g_i2l hX dX1_addRowToSum_37 ?_
          refine g_ladd hX dX1_addRowToSum_38 ?_
          refine g_lstore hX [(4, .long ((((31) * q) + ((16 * (nI r)).toInt64)) + ((nI k).toInt64))), (6, .int (nI k)), (0, .ref (ad (4 + i))), (1, .long sm), (3, .int (nI r))] rfl dX1_addRowToSum_39 (by decide) ?_
          refine g_iinc hX (nI (k + 1)) [(6, .int (nI (k + 1))), (4, .long ((((31) * q) + ((16 * (nI r)).toInt64)) + ((nI k).toInt64))), (0, .ref (ad (4 + i))), (1, .long sm), (3, .int (nI r))] (k := 1) rfl (g_inc k) rfl dX1_addRowToSum_41 (by decide) ?_
          refine g_goto (tgt := 6) hX dX1_addRowToSum_44 (by decide) ?_
          refine g_lv [0, 1, 2, 3, 4] rfl ?_
          exact ih_6 (k + 1) ((((31) * q) + ((16 * (nI r)).toInt64)) + ((nI k).toInt64)) (by omega) (by omega) (by rw [ars, hq]; simp only [c_20, if_true, if_false])
  refine g_lv [0, 1, 2, 3, 4] rfl ?_
  exact lp_6 _ 0 sm (Nat.lt_succ_self _) (Nat.zero_le _) rfl
abbrev rm_X1_addToSum : Room := { frames := 3, cells := 0, slots := 0, locals := 69 }
theorem hd_X1_addToSum : yX1_addToSum.cls = RX1 ∧ yX1_addToSum.cls ≠ "java/lang/invoke/MethodHandle" ∧ yX1_addToSum.cls ≠ "java/lang/invoke/VarHandle" ∧ (parseMethodDescriptor yX1_addToSum.desc).map (fun d => d.parameters.length) = some 1 := by decide +kernel
set_option maxRecDepth 100000 in
set_option maxHeartbeats 4000000 in
theorem k_X1_addToSum {D : va_G} {dT : Nat → ClassId} {ad : Nat → Nat} (I : Nat → Nat → Int32) (i : Nat) (hi : i < 4) (sm : Int64) : KL yX1_addToSum wsX1_addToSum rm_X1_addToSum D dT ad I [.ref (ad (4 + i)), .long sm] (fun q J => I = J ∧ ats I i sm 200 = q) := by
  intro l9
  refine cl_of (own := RX1) (cc := cX1_addToSum) (maxL := 6) [(0, .ref (ad (4 + i))), (1, .long sm)] (by decide) rfl rfl rfl (Nat.le_of_ble_eq_true rfl) ?_
  intro X hX hE hN
  have q_w1 : Cond.fieldLink RX1 9 "Perforatum$Paper" "bits" "[I" ∈ wsX1_addToSum := List.mem_of_getElem? (i := 1) rfl
  have q_inX1 : ∀ w ∈ wsX10, w ∈ wsX1_addToSum := by decide +kernel
  refine g_lload_n hX 1 rfl dX1_addToSum_0 rfl ?_
  refine g_lstore_n hX [(3, .long sm), (0, .ref (ad (4 + i))), (1, .long sm)] rfl dX1_addToSum_1 rfl (by decide) ?_
  refine g_iconst hX (0) dX1_addToSum_2 rfl ?_
  refine g_istore hX [(5, .int 0), (3, .long sm), (0, .ref (ad (4 + i))), (1, .long sm)] rfl dX1_addToSum_3 (by decide) ?_
  have lp_5 : ∀ (n9 : Nat) (k : Nat) (q : Int64), 200 - k < n9 → k ≤ 200 → q = ats I i sm k → CG X D dT ad I [(5, .int (nI k)), (3, .long q), (0, .ref (ad (4 + i))), (1, .long sm)] 0 0 5 [] := by
    intro n9
    induction n9 with
    | zero => intro k q h9; exact absurd h9 (Nat.not_lt_zero _)
    | succ n9 ih9 =>
      intro k q h9 hk hq
      have ih_5 := ih9
      refine g_iload hX 0 rfl dX1_addToSum_5 ?_
      refine g_sipush hX (200) dX1_addToSum_7 rfl ?_
      refine g_icmp_ge (tgt := 37) hX dX1_addToSum_10 (by decide) (fun c_10 => ?_) (fun c_10 => ?_)
      · have c_10 : 200 ≤ k := (nI_leI (a := 200) (b := k) (by omega) (by omega)).mp c_10
        refine g_lload_n hX 1 rfl dX1_addToSum_37 rfl ?_
        refine g_lret hX hE dX1_addToSum_38 (by omega) (by omega) ?_
        exact ⟨_, rfl, rfl, by rw [hq, show k = 200 by omega]⟩
      · have c_10 : ¬ 200 ≤ k := fun h9 => c_10 ((nI_leI (a := 200) (b := k) (by omega) (by omega)).mpr h9)
        refine g_aload_n hX 2 rfl dX1_addToSum_13 rfl ?_
        refine cg_X1_bits hX (by omega) (cK_p hi) q_inX1 q_w1 (cR_b hi) dX1_addToSum_14 ?_
        refine g_iload hX 0 rfl dX1_addToSum_17 ?_
        refine c_ialdk hX k (by omega) (cK_b hi) (by rw [cN_b hi]; omega) (by omega) dX1_addToSum_19 ?_
        refine g_if_eq (tgt := 31) hX dX1_addToSum_20 (by decide) (fun c_20 => ?_) (fun c_20 => ?_)
        · refine g_iinc hX (nI (k + 1)) [(5, .int (nI (k + 1))), (3, .long q), (0, .ref (ad (4 + i))), (1, .long sm)] (k := 0) rfl (g_inc k) rfl dX1_addToSum_31 (by decide) ?_
          refine g_goto (tgt := 5) hX dX1_addToSum_34 (by decide) ?_
          refine g_lv [0, 1, 2, 3] rfl ?_
          exact ih_5 (k + 1) q (by omega) (by omega) (by rw [ats, hq]; simp only [c_20, if_true, if_false])
        · refine g_aload_n hX 2 rfl dX1_addToSum_23 rfl ?_
          refine g_lload_n hX 1 rfl dX1_addToSum_24 rfl ?_
          refine g_iload hX 0 rfl dX1_addToSum_25 ?_
          refine c_callL_V hX [.long q, .int (nI k)] 5 (by omega) (cK_p hi) (by decide) rfl (k_X1_addRowToSum I i hi q k) gX1_addToSum_X1_addRowToSum rfl rfl rfl hd_X1_addRowToSum ⟨Nat.le_of_ble_eq_true rfl, Nat.le_of_ble_eq_true rfl⟩ ⟨Nat.zero_le _, Nat.zero_le _⟩ rfl (Nat.le_of_ble_eq_true rfl) dX1_addToSum_27 (fun r_27 J_27 h_27 => ?_)
          obtain ⟨rfl, rfl⟩ := h_27
          refine g_lstore_n hX [(3, .long (ars I i q k 16)), (5, .int (nI k)), (0, .ref (ad (4 + i))), (1, .long sm)] rfl dX1_addToSum_30 rfl (by decide) ?_
          refine g_iinc hX (nI (k + 1)) [(5, .int (nI (k + 1))), (3, .long (ars I i q k 16)), (0, .ref (ad (4 + i))), (1, .long sm)] (k := 1) rfl (g_inc k) rfl dX1_addToSum_31 (by decide) ?_
          refine g_goto (tgt := 5) hX dX1_addToSum_34 (by decide) ?_
          refine g_lv [0, 1, 2, 3] rfl ?_
          exact ih_5 (k + 1) (ars I i q k 16) (by omega) (by omega) (by rw [ats, hq]; simp only [c_20, if_true, if_false])
  refine g_lv [0, 1, 2, 3] rfl ?_
  exact lp_5 _ 0 sm (Nat.lt_succ_self _) (Nat.zero_le _) rfl

