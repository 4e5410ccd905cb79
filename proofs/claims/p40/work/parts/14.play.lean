abbrev rm_J6_compare_7cf53 : Room := { frames := 0, cells := 0, slots := 0, locals := 0 }
theorem hd_J6_compare_7cf53 : yJ6_compare_7cf53.cls = RJ6 ∧ yJ6_compare_7cf53.cls ≠ "java/lang/invoke/MethodHandle" ∧ yJ6_compare_7cf53.cls ≠ "java/lang/invoke/VarHandle" ∧ (parseMethodDescriptor yJ6_compare_7cf53.desc).map (fun d => d.parameters.length) = some 2 := by decide +kernel
set_option maxRecDepth 100000 in
set_option maxHeartbeats 4000000 in
theorem k_J6_compare_7cf53 {D : va_G} {dT : Nat → ClassId} {ad : Nat → Nat} (I : Nat → Nat → Int32) (x y : Int32) : KI yJ6_compare_7cf53 wsJ6_compare_7cf53 rm_J6_compare_7cf53 D dT ad I [.int x, .int y] (fun r J => I = J ∧ cmp3 x y = r) := by
  intro l9
  refine ci_of (own := RJ6) (cc := cJ6_compare_7cf53) (maxL := 2) (some .int) [(0, .int x), (1, .int y)] (by decide) rfl rfl rfl (Nat.le_of_ble_eq_true rfl) ?_
  intro X hX hE hN
  refine g_iload_n hX 0 rfl dJ6_compare_7cf53_0 rfl ?_
  refine g_iload_n hX 1 rfl dJ6_compare_7cf53_1 rfl ?_
  refine g_icmp_ge (tgt := 9) hX dJ6_compare_7cf53_2 (by decide) (fun c_2 => ?_) (fun c_2 => ?_)
  · refine g_iload_n hX 0 rfl dJ6_compare_7cf53_9 rfl ?_
    refine g_iload_n hX 1 rfl dJ6_compare_7cf53_10 rfl ?_
    refine g_icmp_ne (tgt := 18) hX dJ6_compare_7cf53_11 (by decide) (fun c_11 => ?_) (fun c_11 => ?_)
    · refine g_iconst hX (1) dJ6_compare_7cf53_18 rfl ?_
      refine g_iret hX hE dJ6_compare_7cf53_19 (by omega) (by omega) ?_
      exact ⟨_, rfl, rfl, by rw [cmp3, if_pos c_2, if_neg c_11]⟩
    · refine g_iconst hX (0) dJ6_compare_7cf53_14 rfl ?_
      refine g_goto (tgt := 19) hX dJ6_compare_7cf53_15 (by decide) ?_
      refine g_iret hX hE dJ6_compare_7cf53_19 (by omega) (by omega) ?_
      exact ⟨_, rfl, rfl, by rw [cmp3, if_pos c_2, if_pos c_11]⟩
  · refine g_iconst hX (-1) dJ6_compare_7cf53_5 rfl ?_
    refine g_goto (tgt := 19) hX dJ6_compare_7cf53_6 (by decide) ?_
    refine g_iret hX hE dJ6_compare_7cf53_19 (by omega) (by omega) ?_
    exact ⟨_, rfl, rfl, by rw [cmp3, if_neg c_2]⟩
abbrev rm_X2_isRead : Room := { frames := 0, cells := 0, slots := 0, locals := 0 }
theorem hd_X2_isRead : yX2_isRead.cls = RX2 ∧ yX2_isRead.cls ≠ "java/lang/invoke/MethodHandle" ∧ yX2_isRead.cls ≠ "java/lang/invoke/VarHandle" ∧ (parseMethodDescriptor yX2_isRead.desc).map (fun d => d.parameters.length) = some 2 := by decide +kernel
set_option maxRecDepth 100000 in
set_option maxHeartbeats 4000000 in
theorem k_X2_isRead {D : va_G} {dT : Nat → ClassId} {ad : Nat → Nat} (I : Nat → Nat → Int32) (x t : Int32) : KI yX2_isRead wsX2_isRead rm_X2_isRead D dT ad I [.int x, .int t] (fun r J => I = J ∧ ir x t = r) := by
  intro l9
  refine ci_of (own := RX2) (cc := cX2_isRead) (maxL := 2) (some .boolean) [(0, .int x), (1, .int t)] (by decide) rfl rfl rfl (Nat.le_of_ble_eq_true rfl) ?_
  intro X hX hE hN
  refine g_iload_n hX 0 rfl dX2_isRead_0 rfl ?_
  refine g_iload_n hX 1 rfl dX2_isRead_1 rfl ?_
  refine g_ishr hX dX2_isRead_2 ?_
  refine g_iconst hX (1) dX2_isRead_3 rfl ?_
  refine g_iand hX dX2_isRead_4 ?_
  refine g_if_eq (tgt := 12) hX dX2_isRead_5 (by decide) (fun c_5 => ?_) (fun c_5 => ?_)
  · refine g_iconst hX (0) dX2_isRead_12 rfl ?_
    refine g_zret hX rfl hE dX2_isRead_13 (by omega) (by omega) ?_
    exact ⟨_, rfl, rfl, by simp only [ir, c_5, if_true, if_false]⟩
  · refine g_iconst hX (1) dX2_isRead_8 rfl ?_
    refine g_goto (tgt := 13) hX dX2_isRead_9 (by decide) ?_
    refine g_zret hX rfl hE dX2_isRead_13 (by omega) (by omega) ?_
    exact ⟨_, rfl, rfl, by simp only [ir, c_5, if_true, if_false]⟩
abbrev rm_X2_isBusy : Room := { frames := 0, cells := 0, slots := 0, locals := 0 }
theorem hd_X2_isBusy : yX2_isBusy.cls = RX2 ∧ yX2_isBusy.cls ≠ "java/lang/invoke/MethodHandle" ∧ yX2_isBusy.cls ≠ "java/lang/invoke/VarHandle" ∧ (parseMethodDescriptor yX2_isBusy.desc).map (fun d => d.parameters.length) = some 0 := by decide +kernel
set_option maxRecDepth 100000 in
set_option maxHeartbeats 4000000 in
theorem k_X2_isBusy {D : va_G} {dT : Nat → ClassId} {ad : Nat → Nat} (I : Nat → Nat → Int32) : KI yX2_isBusy wsX2_isBusy rm_X2_isBusy D dT ad I [.ref (ad 3)] (fun r J => I = J ∧ isB I = r) := by
  intro l9
  refine ci_of (own := RX2) (cc := cX2_isBusy) (maxL := 1) (some .boolean) [(0, .ref (ad 3))] (by decide) rfl rfl rfl (Nat.le_of_ble_eq_true rfl) ?_
  intro X hX hE hN
  have q_w1 : Cond.fieldLink RX2 31 "Perforatum$Player" "paper" "LPerforatum$Paper;" ∈ wsX2_isBusy := List.mem_of_getElem? (i := 1) rfl
  have q_inX2 : ∀ w ∈ wsX20, w ∈ wsX2_isBusy := by decide +kernel
  rcases hcp : cP I with _ | pv
  · refine g_aload_n hX 0 rfl dX2_isBusy_0 rfl ?_
    refine cg_paperN hX q_inX2 q_w1 hcp dX2_isBusy_1 ?_
    refine g_ifnullN (tgt := 11) hX dX2_isBusy_4 (by decide) ?_
    refine g_iconst hX (0) dX2_isBusy_11 rfl ?_
    refine g_zret hX rfl hE dX2_isBusy_12 (by omega) (by omega) ?_
    exact ⟨_, rfl, rfl, by rw [isB, hcp]; rfl⟩
  · refine g_aload_n hX 0 rfl dX2_isBusy_0 rfl ?_
    refine cg_X2_paper hX (by decide) rfl q_inX2 q_w1 hcp dX2_isBusy_1 ?_
    refine g_ifnull hX dX2_isBusy_4 ?_
    refine g_iconst hX (1) dX2_isBusy_7 rfl ?_
    refine g_goto (tgt := 12) hX dX2_isBusy_8 (by decide) ?_
    refine g_zret hX rfl hE dX2_isBusy_12 (by omega) (by omega) ?_
    exact ⟨_, rfl, rfl, by rw [isB, hcp]; rfl⟩
abbrev rm_X2_begin : Room := { frames := 1, cells := 0, slots := 0, locals := 22 }
theorem hd_X2_begin : yX2_begin.cls = RX2 ∧ yX2_begin.cls ≠ "java/lang/invoke/MethodHandle" ∧ yX2_begin.cls ≠ "java/lang/invoke/VarHandle" ∧ (parseMethodDescriptor yX2_begin.desc).map (fun d => d.parameters.length) = some 1 := by decide +kernel
set_option maxRecDepth 100000 in
set_option maxHeartbeats 4000000 in
theorem k_X2_begin {D : va_G} {dT : Nat → ClassId} {ad : Nat → Nat} (I : Nat → Nat → Int32) (i : Nat) (hi : i < 4) : KV yX2_begin wsX2_begin rm_X2_begin D dT ad I [.ref (ad 3), .ref (ad (4 + i))] (fun J => bgP I i = J) := by
  intro l9
  refine cv_of (own := RX2) (cc := cX2_begin) (maxL := 3) [(0, .ref (ad 3)), (1, .ref (ad (4 + i)))] (by decide) rfl rfl rfl (Nat.le_of_ble_eq_true rfl) ?_
  intro X hX hE hN
  have q_w1 : Cond.fieldLink RX2 31 "Perforatum$Player" "paper" "LPerforatum$Paper;" ∈ wsX2_begin := List.mem_of_getElem? (i := 1) rfl
  have q_inX2 : ∀ w ∈ wsX20, w ∈ wsX2_begin := by decide +kernel
  have q_w2 : Cond.fieldLink RX2 35 "Perforatum$Player" "nextRow" "I" ∈ wsX2_begin := List.mem_of_getElem? (i := 2) rfl
  have q_w3 : Cond.fieldLink RX2 39 "Perforatum$Player" "vacuum" "I" ∈ wsX2_begin := List.mem_of_getElem? (i := 3) rfl
  have q_w4 : Cond.fieldLink RX2 42 "Perforatum$Player" "strength" "I" ∈ wsX2_begin := List.mem_of_getElem? (i := 4) rfl
  have q_w5 : Cond.fieldLink RX2 45 "Perforatum$Player" "shift" "I" ∈ wsX2_begin := List.mem_of_getElem? (i := 5) rfl
  have q_w6 : Cond.fieldLink RX2 48 "Perforatum$Player" "openings" "I" ∈ wsX2_begin := List.mem_of_getElem? (i := 6) rfl
  have q_w7 : Cond.fieldLink RX2 51 "Perforatum$Player" "beginnings" "I" ∈ wsX2_begin := List.mem_of_getElem? (i := 7) rfl
  have q_w8 : Cond.fieldLink RX2 54 "Perforatum$Player" "isLatched" "Z" ∈ wsX2_begin := List.mem_of_getElem? (i := 8) rfl
  have q_w9 : Cond.fieldLink RX2 58 "Perforatum$Player" "isPedalDown" "Z" ∈ wsX2_begin := List.mem_of_getElem? (i := 9) rfl
  have q_w10 : Cond.fieldLink RX2 61 "Perforatum$Player" "readAhead" "I" ∈ wsX2_begin := List.mem_of_getElem? (i := 10) rfl
  have q_w11 : Cond.fieldLink RX2 27 "Perforatum$Player" "log" "LPerforatum$SoundingLog;" ∈ wsX2_begin := List.mem_of_getElem? (i := 11) rfl
  have q_w12 : Cond.fieldLink RX2 20 "Perforatum$Player" "valves" "[LPerforatum$Valve;" ∈ wsX2_begin := List.mem_of_getElem? (i := 12) rfl
  refine g_aload_n hX 0 rfl dX2_begin_0 rfl ?_
  refine g_aload_n hX 1 rfl dX2_begin_1 rfl ?_
  refine g_iconst hX (0) dX2_begin_2 rfl ?_
  refine c_callI_V hX [.int 0] 5 (by omega) (cK_p hi) (by decide) rfl (k_X1_hasHolesFrom I i hi 0 (Nat.zero_le _)) gX2_begin_X1_hasHolesFrom rfl rfl rfl hd_X1_hasHolesFrom ⟨Nat.le_of_ble_eq_true rfl, Nat.le_of_ble_eq_true rfl⟩ ⟨Nat.zero_le _, Nat.zero_le _⟩ rfl (Nat.le_of_ble_eq_true rfl) dX2_begin_3 (fun r_3 J_3 h_3 => ?_)
  obtain ⟨rfl, rfl⟩ := h_3
  refine g_if_eq (tgt := 13) hX dX2_begin_6 (by decide) (fun c_6 => ?_) (fun c_6 => ?_)
  · refine g_null hX dX2_begin_13 ?_
    refine cp_paperN hX q_inX2 q_w1 dX2_begin_14 ?_
    refine g_aload_n hX 0 rfl dX2_begin_17 rfl ?_
    refine g_iconst hX (0) dX2_begin_18 rfl ?_
    refine cp_X2_nextRow hX (by decide) rfl q_inX2 q_w2 dX2_begin_19 ?_
    refine g_aload_n hX 0 rfl dX2_begin_22 rfl ?_
    refine g_sipush hX (1000) dX2_begin_23 rfl ?_
    refine cp_X2_vacuum hX (by decide) rfl q_inX2 q_w3 dX2_begin_26 ?_
    refine g_aload_n hX 0 rfl dX2_begin_29 rfl ?_
    refine g_iconst hX (3) dX2_begin_30 rfl ?_
    refine cp_X2_strength hX (by decide) rfl q_inX2 q_w4 dX2_begin_31 ?_
    refine g_aload_n hX 0 rfl dX2_begin_34 rfl ?_
    refine g_iconst hX (0) dX2_begin_35 rfl ?_
    refine cp_X2_shift hX (by decide) rfl q_inX2 q_w5 dX2_begin_36 ?_
    refine g_aload_n hX 0 rfl dX2_begin_39 rfl ?_
    refine g_iconst hX (0) dX2_begin_40 rfl ?_
    refine cp_X2_openings hX (by decide) rfl q_inX2 q_w6 dX2_begin_41 ?_
    refine g_aload_n hX 0 rfl dX2_begin_44 rfl ?_
    refine g_iconst hX (0) dX2_begin_45 rfl ?_
    refine cp_X2_beginnings hX (by decide) rfl q_inX2 q_w7 dX2_begin_46 ?_
    refine g_aload_n hX 0 rfl dX2_begin_49 rfl ?_
    refine g_iconst hX (0) dX2_begin_50 rfl ?_
    refine cp_X2_isLatched hX (by decide) rfl q_inX2 q_w8 rfl rfl dX2_begin_51 ?_
    refine g_aload_n hX 0 rfl dX2_begin_54 rfl ?_
    refine g_iconst hX (0) dX2_begin_55 rfl ?_
    refine cp_X2_isPedalDown hX (by decide) rfl q_inX2 q_w9 rfl rfl dX2_begin_56 ?_
    refine g_aload_n hX 0 rfl dX2_begin_59 rfl ?_
    refine g_iconst hX (0) dX2_begin_60 rfl ?_
    refine cp_X2_readAhead hX (by decide) rfl q_inX2 q_w10 dX2_begin_61 ?_
    refine g_aload_n hX 0 rfl dX2_begin_64 rfl ?_
    refine cg_X2_log hX (by decide) rfl q_inX2 q_w11 rfl dX2_begin_65 ?_
    refine c_callV_V hX [] 8 (by decide) rfl (by decide) rfl (k_X4_clear (up2 (up2 (up2 (up2 (up2 (up2 (up2 (up2 (up2 (setP I (-1)) 3 4 0) 3 5 1000) 3 6 3) 3 7 0) 3 8 0) 3 9 0) 3 10 0) 3 11 0) 3 12 0) ) gX2_begin_X4_clear rfl rfl rfl hd_X4_clear ⟨Nat.le_of_ble_eq_true rfl, Nat.le_of_ble_eq_true rfl⟩ ⟨Nat.zero_le _, Nat.zero_le _⟩ rfl (Nat.le_of_ble_eq_true rfl) dX2_begin_68 (fun J_68 h_68 => ?_)
    subst h_68
    refine c_I (J := up2 (bg0 I i) 17 6 0) (by rw [bg0, if_pos c_6]) ?_
    refine g_iconst hX (0) dX2_begin_71 rfl ?_
    refine g_istore_n hX [(2, .int 0), (0, .ref (ad 3)), (1, .ref (ad (4 + i)))] rfl dX2_begin_72 rfl (by decide) ?_
    have lp_73 : ∀ (n9 : Nat) (k : Nat) (J : Nat → Nat → Int32), 12 - k < n9 → k ≤ 12 → J = rsA (up2 (bg0 I i) 17 6 0) k → CG X D dT ad J [(2, .int (nI k)), (0, .ref (ad 3)), (1, .ref (ad (4 + i)))] 0 0 73 [] := by
      intro n9
      induction n9 with
      | zero => intro k J h9; exact absurd h9 (Nat.not_lt_zero _)
      | succ n9 ih9 =>
        intro k J h9 hk hJ
        have ih_73 := ih9
        refine g_iload_n hX 0 rfl dX2_begin_73 rfl ?_
        refine g_bipush hX (12) dX2_begin_74 rfl ?_
        refine g_icmp_ge (tgt := 94) hX dX2_begin_76 (by decide) (fun c_76 => ?_) (fun c_76 => ?_)
        · have c_76 : 12 ≤ k := (nI_leI (a := 12) (b := k) (by omega) (by omega)).mp c_76
          refine g_vret hX hE dX2_begin_94 (by omega) (by omega) ?_
          exact ⟨_, rfl, by rw [hJ, show k = 12 by omega]; rfl⟩
        · have c_76 : ¬ 12 ≤ k := fun h9 => c_76 ((nI_leI (a := 12) (b := k) (by omega) (by omega)).mpr h9)
          refine g_aload_n hX 1 rfl dX2_begin_79 rfl ?_
          refine cg_X2_valves hX (by decide) rfl q_inX2 q_w12 rfl dX2_begin_80 ?_
          refine g_iload_n hX 0 rfl dX2_begin_83 rfl ?_
          refine c_aaldv hX k (by omega) dX2_begin_84 ?_
          refine c_callV_V hX [] 9 (by omega) (cK_v (by omega)) (by decide) rfl (k_X5_reset J k (by omega)) gX2_begin_X5_reset rfl rfl rfl hd_X5_reset ⟨Nat.le_of_ble_eq_true rfl, Nat.le_of_ble_eq_true rfl⟩ ⟨Nat.zero_le _, Nat.zero_le _⟩ rfl (Nat.le_of_ble_eq_true rfl) dX2_begin_85 (fun J_85 h_85 => ?_)
          subst h_85
          refine g_iinc hX (nI (k + 1)) [(2, .int (nI (k + 1))), (0, .ref (ad 3)), (1, .ref (ad (4 + i)))] (k := 0) rfl (g_inc k) rfl dX2_begin_88 (by decide) ?_
          refine g_goto (tgt := 73) hX dX2_begin_91 (by decide) ?_
          refine g_lv [0, 1, 2] rfl ?_
          exact ih_73 (k + 1) (rsV J k) (by omega) (by omega) (by rw [hJ]; rfl)
    refine g_lv [0, 1, 2] rfl ?_
    exact lp_73 _ 0 (up2 (bg0 I i) 17 6 0) (Nat.lt_succ_self _) (Nat.zero_le _) rfl
  · refine g_aload_n hX 1 rfl dX2_begin_9 rfl ?_
    refine g_goto (tgt := 14) hX dX2_begin_10 (by decide) ?_
    refine cp_paperS hX q_inX2 q_w1 hi dX2_begin_14 ?_
    refine g_aload_n hX 0 rfl dX2_begin_17 rfl ?_
    refine g_iconst hX (0) dX2_begin_18 rfl ?_
    refine cp_X2_nextRow hX (by decide) rfl q_inX2 q_w2 dX2_begin_19 ?_
    refine g_aload_n hX 0 rfl dX2_begin_22 rfl ?_
    refine g_sipush hX (1000) dX2_begin_23 rfl ?_
    refine cp_X2_vacuum hX (by decide) rfl q_inX2 q_w3 dX2_begin_26 ?_
    refine g_aload_n hX 0 rfl dX2_begin_29 rfl ?_
    refine g_iconst hX (3) dX2_begin_30 rfl ?_
    refine cp_X2_strength hX (by decide) rfl q_inX2 q_w4 dX2_begin_31 ?_
    refine g_aload_n hX 0 rfl dX2_begin_34 rfl ?_
    refine g_iconst hX (0) dX2_begin_35 rfl ?_
    refine cp_X2_shift hX (by decide) rfl q_inX2 q_w5 dX2_begin_36 ?_
    refine g_aload_n hX 0 rfl dX2_begin_39 rfl ?_
    refine g_iconst hX (0) dX2_begin_40 rfl ?_
    refine cp_X2_openings hX (by decide) rfl q_inX2 q_w6 dX2_begin_41 ?_
    refine g_aload_n hX 0 rfl dX2_begin_44 rfl ?_
    refine g_iconst hX (0) dX2_begin_45 rfl ?_
    refine cp_X2_beginnings hX (by decide) rfl q_inX2 q_w7 dX2_begin_46 ?_
    refine g_aload_n hX 0 rfl dX2_begin_49 rfl ?_
    refine g_iconst hX (0) dX2_begin_50 rfl ?_
    refine cp_X2_isLatched hX (by decide) rfl q_inX2 q_w8 rfl rfl dX2_begin_51 ?_
    refine g_aload_n hX 0 rfl dX2_begin_54 rfl ?_
    refine g_iconst hX (0) dX2_begin_55 rfl ?_
    refine cp_X2_isPedalDown hX (by decide) rfl q_inX2 q_w9 rfl rfl dX2_begin_56 ?_
    refine g_aload_n hX 0 rfl dX2_begin_59 rfl ?_
    refine g_iconst hX (0) dX2_begin_60 rfl ?_
    refine cp_X2_readAhead hX (by decide) rfl q_inX2 q_w10 dX2_begin_61 ?_
    refine g_aload_n hX 0 rfl dX2_begin_64 rfl ?_
    refine cg_X2_log hX (by decide) rfl q_inX2 q_w11 rfl dX2_begin_65 ?_
    refine c_callV_V hX [] 8 (by decide) rfl (by decide) rfl (k_X4_clear (up2 (up2 (up2 (up2 (up2 (up2 (up2 (up2 (up2 (setP I (nI i)) 3 4 0) 3 5 1000) 3 6 3) 3 7 0) 3 8 0) 3 9 0) 3 10 0) 3 11 0) 3 12 0) ) gX2_begin_X4_clear rfl rfl rfl hd_X4_clear ⟨Nat.le_of_ble_eq_true rfl, Nat.le_of_ble_eq_true rfl⟩ ⟨Nat.zero_le _, Nat.zero_le _⟩ rfl (Nat.le_of_ble_eq_true rfl) dX2_begin_68 (fun J_68 h_68 => ?_)
    subst h_68
    refine c_I (J := up2 (bg0 I i) 17 6 0) (by rw [bg0, if_neg c_6]) ?_
    refine g_iconst hX (0) dX2_begin_71 rfl ?_
    refine g_istore_n hX [(2, .int 0), (0, .ref (ad 3)), (1, .ref (ad (4 + i)))] rfl dX2_begin_72 rfl (by decide) ?_
    have lp_73 : ∀ (n9 : Nat) (k : Nat) (J : Nat → Nat → Int32), 12 - k < n9 → k ≤ 12 → J = rsA (up2 (bg0 I i) 17 6 0) k → CG X D dT ad J [(2, .int (nI k)), (0, .ref (ad 3)), (1, .ref (ad (4 + i)))] 0 0 73 [] := by
      intro n9
      induction n9 with
      | zero => intro k J h9; exact absurd h9 (Nat.not_lt_zero _)
      | succ n9 ih9 =>
        intro k J h9 hk hJ
        have ih_73 := ih9
        refine g_iload_n hX 0 rfl dX2_begin_73 rfl ?_
        refine g_bipush hX (12) dX2_begin_74 rfl ?_
        refine g_icmp_ge (tgt := 94) hX dX2_begin_76 (by decide) (fun c_76 => ?_) (fun c_76 => ?_)
        · have c_76 : 12 ≤ k := (nI_leI (a := 12) (b := k) (by omega) (by omega)).mp c_76
          refine g_vret hX hE dX2_begin_94 (by omega) (by omega) ?_
          exact ⟨_, rfl, by rw [hJ, show k = 12 by omega]; rfl⟩
        · have c_76 : ¬ 12 ≤ k := fun h9 => c_76 ((nI_leI (a := 12) (b := k) (by omega) (by omega)).mpr h9)
          refine g_aload_n hX 1 rfl dX2_begin_79 rfl ?_
          refine cg_X2_valves hX (by decide) rfl q_inX2 q_w12 rfl dX2_begin_80 ?_
          refine g_iload_n hX 0 rfl dX2_begin_83 rfl ?_
          refine c_aaldv hX k (by omega) dX2_begin_84 ?_
          refine c_callV_V hX [] 9 (by omega) (cK_v (by omega)) (by decide) rfl (k_X5_reset J k (by omega)) gX2_begin_X5_reset rfl rfl rfl hd_X5_reset ⟨Nat.le_of_ble_eq_true rfl, Nat.le_of_ble_eq_true rfl⟩ ⟨Nat.zero_le _, Nat.zero_le _⟩ rfl (Nat.le_of_ble_eq_true rfl) dX2_begin_85 (fun J_85 h_85 => ?_)
          subst h_85
          refine g_iinc hX (nI (k + 1)) [(2, .int (nI (k + 1))), (0, .ref (ad 3)), (1, .ref (ad (4 + i)))] (k := 0) rfl (g_inc k) rfl dX2_begin_88 (by decide) ?_
          refine g_goto (tgt := 73) hX dX2_begin_91 (by decide) ?_
          refine g_lv [0, 1, 2] rfl ?_
          exact ih_73 (k + 1) (rsV J k) (by omega) (by omega) (by rw [hJ]; rfl)
    refine g_lv [0, 1, 2] rfl ?_
    exact lp_73 _ 0 (up2 (bg0 I i) 17 6 0) (Nat.lt_succ_self _) (Nat.zero_le _) rfl
abbrev rm_X2_readHoles : Room := { frames := 1, cells := 0, slots := 0, locals := 21 }
theorem hd_X2_readHoles : yX2_readHoles.cls = RX2 ∧ yX2_readHoles.cls ≠ "java/lang/invoke/MethodHandle" ∧ yX2_readHoles.cls ≠ "java/lang/invoke/VarHandle" ∧ (parseMethodDescriptor yX2_readHoles.desc).map (fun d => d.parameters.length) = some 1 := by decide +kernel
set_option maxRecDepth 100000 in
set_option maxHeartbeats 4000000 in
theorem k_X2_readHoles {D : va_G} {dT : Nat → ClassId} {ad : Nat → Nat} (I : Nat → Nat → Int32) (i : Nat) (hi : i < 4) : KI yX2_readHoles wsX2_readHoles rm_X2_readHoles D dT ad I [.ref (ad 3), .ref (ad (4 + i))] (fun r J => I = J ∧ rh I i = r) := by
  intro l9
  refine ci_of (own := RX2) (cc := cX2_readHoles) (maxL := 3) (some .int) [(0, .ref (ad 3)), (1, .ref (ad (4 + i)))] (by decide) rfl rfl rfl (Nat.le_of_ble_eq_true rfl) ?_
  intro X hX hE hN
  have q_w1 : Cond.fieldLink RX2 35 "Perforatum$Player" "nextRow" "I" ∈ wsX2_readHoles := List.mem_of_getElem? (i := 1) rfl
  have q_inX2 : ∀ w ∈ wsX20, w ∈ wsX2_readHoles := by decide +kernel
  have q_w2 : Cond.fieldLink RX2 45 "Perforatum$Player" "shift" "I" ∈ wsX2_readHoles := List.mem_of_getElem? (i := 2) rfl
  have q_w3 : Cond.constant RX2 110 (65535) ∈ wsX2_readHoles := List.mem_of_getElem? (i := 3) rfl
  refine g_aload_n hX 1 rfl dX2_readHoles_0 rfl ?_
  refine g_aload_n hX 0 rfl dX2_readHoles_1 rfl ?_
  refine cg_X2_nextRow hX (by decide) rfl q_inX2 q_w1 dX2_readHoles_2 ?_
  refine c_callI_V hX [.int (I 3 4)] 5 (by omega) (cK_p hi) (by decide) rfl (k_X1_readBits I i hi (I 3 4)) gX2_readHoles_X1_readBits rfl rfl rfl hd_X1_readBits ⟨Nat.le_of_ble_eq_true rfl, Nat.le_of_ble_eq_true rfl⟩ ⟨Nat.zero_le _, Nat.zero_le _⟩ rfl (Nat.le_of_ble_eq_true rfl) dX2_readHoles_5 (fun r_5 J_5 h_5 => ?_)
  obtain ⟨rfl, rfl⟩ := h_5
  refine g_istore_n hX [(2, .int (rb I i (I 3 4))), (0, .ref (ad 3)), (1, .ref (ad (4 + i)))] rfl dX2_readHoles_8 rfl (by decide) ?_
  refine g_aload_n hX 1 rfl dX2_readHoles_9 rfl ?_
  refine cg_X2_shift hX (by decide) rfl q_inX2 q_w2 dX2_readHoles_10 ?_
  refine g_if_lt (tgt := 25) hX dX2_readHoles_13 (by decide) (fun c_13 => ?_) (fun c_13 => ?_)
  · refine g_iload_n hX 0 rfl dX2_readHoles_25 rfl ?_
    refine g_aload_n hX 1 rfl dX2_readHoles_26 rfl ?_
    refine cg_X2_shift hX (by decide) rfl q_inX2 q_w2 dX2_readHoles_27 ?_
    refine g_ineg hX dX2_readHoles_30 ?_
    refine g_ishl hX dX2_readHoles_31 ?_
    refine g_ldc hX (65535) q_w3 dX2_readHoles_32 ?_
    refine g_iand hX dX2_readHoles_34 ?_
    refine g_iret hX hE dX2_readHoles_35 (by omega) (by omega) ?_
    exact ⟨_, rfl, rfl, by simp only [rh, c_13, if_true, if_false]⟩
  · refine g_iload_n hX 0 rfl dX2_readHoles_16 rfl ?_
    refine g_aload_n hX 1 rfl dX2_readHoles_17 rfl ?_
    refine cg_X2_shift hX (by decide) rfl q_inX2 q_w2 dX2_readHoles_18 ?_
    refine g_ishr hX dX2_readHoles_21 ?_
    refine g_goto (tgt := 35) hX dX2_readHoles_22 (by decide) ?_
    refine g_iret hX hE dX2_readHoles_35 (by omega) (by omega) ?_
    exact ⟨_, rfl, rfl, by simp only [rh, c_13, if_true, if_false]⟩
abbrev rm_X2_moveLevel : Room := { frames := 1, cells := 0, slots := 0, locals := 24 }
theorem hd_X2_moveLevel : yX2_moveLevel.cls = RX2 ∧ yX2_moveLevel.cls ≠ "java/lang/invoke/MethodHandle" ∧ yX2_moveLevel.cls ≠ "java/lang/invoke/VarHandle" ∧ (parseMethodDescriptor yX2_moveLevel.desc).map (fun d => d.parameters.length) = some 1 := by decide +kernel
set_option maxRecDepth 100000 in
set_option maxHeartbeats 4000000 in
theorem k_X2_moveLevel {D : va_G} {dT : Nat → ClassId} {ad : Nat → Nat} (I : Nat → Nat → Int32) (q : Int32) : KV yX2_moveLevel wsX2_moveLevel rm_X2_moveLevel D dT ad I [.ref (ad 3), .int q] (fun J => mvL I q = J) := by
  intro l9
  refine cv_of (own := RX2) (cc := cX2_moveLevel) (maxL := 2) [(0, .ref (ad 3)), (1, .int q)] (by decide) rfl rfl rfl (Nat.le_of_ble_eq_true rfl) ?_
  intro X hX hE hN
  have q_w1 : Cond.fieldLink RX2 42 "Perforatum$Player" "strength" "I" ∈ wsX2_moveLevel := List.mem_of_getElem? (i := 1) rfl
  have q_inX2 : ∀ w ∈ wsX20, w ∈ wsX2_moveLevel := by decide +kernel
  have q_w2 : Cond.methodLink RX2 128 Lib.Math.min.name ∈ wsX2_moveLevel := List.mem_of_getElem? (i := 2) rfl
  have q_w3 : Cond.static Lib.Math.min.name ∈ wsX2_moveLevel := List.mem_of_getElem? (i := 3) rfl
  have q_w4 : Cond.initialized "java/lang/Math" ∈ wsX2_moveLevel := List.mem_of_getElem? (i := 4) rfl
  have q_w5 : Cond.code Lib.Math.min.name Lib.Math.min.code 2 (some .int) ∈ wsX2_moveLevel := List.mem_of_getElem? (i := 5) rfl
  have q_w6 : Cond.methodLink RX2 133 Lib.Math.max.name ∈ wsX2_moveLevel := List.mem_of_getElem? (i := 6) rfl
  have q_w7 : Cond.static Lib.Math.max.name ∈ wsX2_moveLevel := List.mem_of_getElem? (i := 7) rfl
  have q_w8 : Cond.code Lib.Math.max.name Lib.Math.max.code 2 (some .int) ∈ wsX2_moveLevel := List.mem_of_getElem? (i := 8) rfl
  refine g_aload_n hX 0 rfl dX2_moveLevel_0 rfl ?_
  refine g_iconst hX (0) dX2_moveLevel_1 rfl ?_
  refine g_bipush hX (6) dX2_moveLevel_2 rfl ?_
  refine g_aload_n hX 0 rfl dX2_moveLevel_4 rfl ?_
  refine cg_X2_strength hX (by decide) rfl q_inX2 q_w1 dX2_moveLevel_5 ?_
  refine g_iload_n hX 1 rfl dX2_moveLevel_8 rfl ?_
  refine g_iadd hX dX2_moveLevel_9 ?_
  refine g_mmin hX q_w2 q_w3 q_w4 q_w5 (Nat.le_of_ble_eq_true rfl) (Nat.le_of_ble_eq_true rfl) (Nat.le_of_ble_eq_true rfl) (Nat.le_of_ble_eq_true rfl) dX2_moveLevel_10 ?_
  refine g_mmax hX q_w6 q_w7 q_w4 q_w8 (Nat.le_of_ble_eq_true rfl) (Nat.le_of_ble_eq_true rfl) (Nat.le_of_ble_eq_true rfl) (Nat.le_of_ble_eq_true rfl) dX2_moveLevel_13 ?_
  refine cp_X2_strength hX (by decide) rfl q_inX2 q_w1 dX2_moveLevel_16 ?_
  refine g_vret hX hE dX2_moveLevel_19 (by omega) (by omega) ?_
  exact ⟨_, rfl, rfl⟩
abbrev rm_X2_latch : Room := { frames := 0, cells := 0, slots := 0, locals := 0 }
theorem hd_X2_latch : yX2_latch.cls = RX2 ∧ yX2_latch.cls ≠ "java/lang/invoke/MethodHandle" ∧ yX2_latch.cls ≠ "java/lang/invoke/VarHandle" ∧ (parseMethodDescriptor yX2_latch.desc).map (fun d => d.parameters.length) = some 2 := by decide +kernel
set_option maxRecDepth 100000 in
set_option maxHeartbeats 4000000 in
theorem k_X2_latch {D : va_G} {dT : Nat → ClassId} {ad : Nat → Nat} (I : Nat → Nat → Int32) (hb : I 3 10 = 0 ∨ I 3 10 = 1) (m q : Int32) : KI yX2_latch wsX2_latch rm_X2_latch D dT ad I [.ref (ad 3), .int m, .int q] (fun r J => latI I m q = J ∧ latI I m q 3 10 = r) := by
  intro l9
  refine ci_of (own := RX2) (cc := cX2_latch) (maxL := 3) (some .boolean) [(0, .ref (ad 3)), (1, .int m), (2, .int q)] (by decide) rfl rfl rfl (Nat.le_of_ble_eq_true rfl) ?_
  intro X hX hE hN
  have q_w1 : Cond.fieldLink RX2 54 "Perforatum$Player" "isLatched" "Z" ∈ wsX2_latch := List.mem_of_getElem? (i := 1) rfl
  have q_inX2 : ∀ w ∈ wsX20, w ∈ wsX2_latch := by decide +kernel
  refine g_iload_n hX 2 rfl dX2_latch_0 rfl ?_
  refine g_if_eq (tgt := 12) hX dX2_latch_1 (by decide) (fun c_1 => ?_) (fun c_1 => ?_)
  · refine g_iload_n hX 1 rfl dX2_latch_12 rfl ?_
    refine g_if_eq (tgt := 21) hX dX2_latch_13 (by decide) (fun c_13 => ?_) (fun c_13 => ?_)
    · refine g_aload_n hX 0 rfl dX2_latch_21 rfl ?_
      refine cg_X2_isLatched hX (by decide) rfl q_inX2 q_w1 dX2_latch_22 ?_
      refine g_zret hX (nz_01 hb) hE dX2_latch_25 (by omega) (by omega) ?_
      exact ⟨_, rfl, by simp only [latI, c_1, c_13, if_true, if_false], by simp only [latI, up2_s, c_1, c_13, if_true, if_false]⟩
    · refine g_aload_n hX 0 rfl dX2_latch_16 rfl ?_
      refine g_iconst hX (1) dX2_latch_17 rfl ?_
      refine cp_X2_isLatched hX (by decide) rfl q_inX2 q_w1 rfl rfl dX2_latch_18 ?_
      refine g_aload_n hX 0 rfl dX2_latch_21 rfl ?_
      refine cg_X2_isLatched hX (by decide) rfl q_inX2 q_w1 dX2_latch_22 ?_
      refine g_eqi (y := 1) (up2_s) ?_
      refine g_zret hX rfl hE dX2_latch_25 (by omega) (by omega) ?_
      exact ⟨_, rfl, by simp only [latI, c_1, c_13, if_true, if_false], by simp only [latI, up2_s, c_1, c_13, if_true, if_false]⟩
  · refine g_aload_n hX 0 rfl dX2_latch_4 rfl ?_
    refine g_iconst hX (0) dX2_latch_5 rfl ?_
    refine cp_X2_isLatched hX (by decide) rfl q_inX2 q_w1 rfl rfl dX2_latch_6 ?_
    refine g_goto (tgt := 21) hX dX2_latch_9 (by decide) ?_
    refine g_aload_n hX 0 rfl dX2_latch_21 rfl ?_
    refine cg_X2_isLatched hX (by decide) rfl q_inX2 q_w1 dX2_latch_22 ?_
    refine g_eqi (y := 0) (up2_s) ?_
    refine g_zret hX rfl hE dX2_latch_25 (by omega) (by omega) ?_
    exact ⟨_, rfl, by simp only [latI, c_1, if_true, if_false], by simp only [latI, up2_s, c_1, if_true, if_false]⟩
abbrev rm_X2_makeLevel : Room := { frames := 2, cells := 0, slots := 0, locals := 45 }
theorem hd_X2_makeLevel : yX2_makeLevel.cls = RX2 ∧ yX2_makeLevel.cls ≠ "java/lang/invoke/MethodHandle" ∧ yX2_makeLevel.cls ≠ "java/lang/invoke/VarHandle" ∧ (parseMethodDescriptor yX2_makeLevel.desc).map (fun d => d.parameters.length) = some 1 := by decide +kernel
set_option maxRecDepth 100000 in
set_option maxHeartbeats 4000000 in
theorem k_X2_makeLevel {D : va_G} {dT : Nat → ClassId} {ad : Nat → Nat} (I : Nat → Nat → Int32) (hb : I 3 10 = 0 ∨ I 3 10 = 1) (x : Int32) : KV yX2_makeLevel wsX2_makeLevel rm_X2_makeLevel D dT ad I [.ref (ad 3), .int x] (fun J => mkl I x = J) := by
  intro l9
  refine cv_of (own := RX2) (cc := cX2_makeLevel) (maxL := 6) [(0, .ref (ad 3)), (1, .int x)] (by decide) rfl rfl rfl (Nat.le_of_ble_eq_true rfl) ?_
  intro X hX hE hN
  have q_w1 : Cond.fieldLink RX2 12 "Perforatum$Player" "settings" "LPerforatum$Settings;" ∈ wsX2_makeLevel := List.mem_of_getElem? (i := 1) rfl
  have q_inX2 : ∀ w ∈ wsX20, w ∈ wsX2_makeLevel := by decide +kernel
  have q_w2 : Cond.fieldLink RX2 111 "Perforatum$Settings" "maker" "C" ∈ wsX2_makeLevel := List.mem_of_getElem? (i := 2) rfl
  have q_inX3 : ∀ w ∈ wsX30, w ∈ wsX2_makeLevel := by decide +kernel
  have q_w4 : Cond.fieldLink RX2 42 "Perforatum$Player" "strength" "I" ∈ wsX2_makeLevel := List.mem_of_getElem? (i := 4) rfl
  have q_w3 : Cond.fieldLink RX2 61 "Perforatum$Player" "readAhead" "I" ∈ wsX2_makeLevel := List.mem_of_getElem? (i := 3) rfl
  refine g_iload_n hX 1 rfl dX2_makeLevel_0 rfl ?_
  refine g_bipush hX (13) dX2_makeLevel_1 rfl ?_
  refine c_callI_S hX [.int x, .int 13] (k_X2_isRead I x 13) gX2_makeLevel_X2_isRead rfl rfl rfl hd_X2_isRead.2 ⟨Nat.le_of_ble_eq_true rfl, Nat.le_of_ble_eq_true rfl⟩ ⟨Nat.zero_le _, Nat.zero_le _⟩ rfl (Nat.le_of_ble_eq_true rfl) dX2_makeLevel_3 (fun r_3 J_3 h_3 => ?_)
  obtain ⟨rfl, rfl⟩ := h_3
  refine g_istore_n hX [(2, .int (ir x 13)), (0, .ref (ad 3)), (1, .int x)] rfl dX2_makeLevel_6 rfl (by decide) ?_
  refine g_iload_n hX 2 rfl dX2_makeLevel_7 rfl ?_
  refine g_bipush hX (14) dX2_makeLevel_8 rfl ?_
  refine c_callI_S hX [.int x, .int 14] (k_X2_isRead I x 14) gX2_makeLevel_X2_isRead rfl rfl rfl hd_X2_isRead.2 ⟨Nat.le_of_ble_eq_true rfl, Nat.le_of_ble_eq_true rfl⟩ ⟨Nat.zero_le _, Nat.zero_le _⟩ rfl (Nat.le_of_ble_eq_true rfl) dX2_makeLevel_10 (fun r_10 J_10 h_10 => ?_)
  obtain ⟨rfl, rfl⟩ := h_10
  refine g_istore_n hX [(3, .int (ir x 14)), (2, .int (ir x 13)), (0, .ref (ad 3)), (1, .int x)] rfl dX2_makeLevel_13 rfl (by decide) ?_
  refine g_aload_n hX 2 rfl dX2_makeLevel_14 rfl ?_
  refine cg_X2_settings hX (by decide) rfl q_inX2 q_w1 rfl dX2_makeLevel_15 ?_
  refine cg_X3_maker hX (by decide) rfl q_inX3 q_w2 dX2_makeLevel_18 ?_
  refine g_bipush hX (97) dX2_makeLevel_21 rfl ?_
  refine g_icmp_ne (tgt := 47) hX dX2_makeLevel_23 (by decide) (fun c_23 => ?_) (fun c_23 => ?_)
  · refine g_aload_n hX 2 rfl dX2_makeLevel_47 rfl ?_
    refine cg_X2_settings hX (by decide) rfl q_inX2 q_w1 rfl dX2_makeLevel_48 ?_
    refine cg_X3_maker hX (by decide) rfl q_inX3 q_w2 dX2_makeLevel_51 ?_
    refine g_bipush hX (98) dX2_makeLevel_54 rfl ?_
    refine g_icmp_ne (tgt := 133) hX dX2_makeLevel_56 (by decide) (fun c_56 => ?_) (fun c_56 => ?_)
    · refine g_iload_n hX 1 rfl dX2_makeLevel_133 rfl ?_
      refine g_if_ne (tgt := 141) hX dX2_makeLevel_134 (by decide) (fun c_134 => ?_) (fun c_134 => ?_)
      · refine g_aload_n hX 2 rfl dX2_makeLevel_141 rfl ?_
        refine g_iload_n hX 1 rfl dX2_makeLevel_142 rfl ?_
        refine g_if_eq (tgt := 150) hX dX2_makeLevel_143 (by decide) (fun c_143 => ?_) (fun c_143 => ?_)
        · first | exact absurd c_134 c_143 | exact absurd c_143 c_134
        · refine g_iconst hX (2) dX2_makeLevel_146 rfl ?_
          refine g_goto (tgt := 151) hX dX2_makeLevel_147 (by decide) ?_
          refine g_iload_n hX 0 rfl dX2_makeLevel_151 rfl ?_
          refine g_if_eq (tgt := 159) hX dX2_makeLevel_152 (by decide) (fun c_152 => ?_) (fun c_152 => ?_)
          · refine g_iconst hX (0) dX2_makeLevel_159 rfl ?_
            refine g_isub hX dX2_makeLevel_160 ?_
            refine c_callV_V hX [.int (2 - 0)] 6 (by decide) rfl (by decide) rfl (k_X2_moveLevel I (2 - 0)) gX2_makeLevel_X2_moveLevel rfl rfl rfl hd_X2_moveLevel ⟨Nat.le_of_ble_eq_true rfl, Nat.le_of_ble_eq_true rfl⟩ ⟨Nat.zero_le _, Nat.zero_le _⟩ rfl (Nat.le_of_ble_eq_true rfl) dX2_makeLevel_161 (fun J_161 h_161 => ?_)
            subst h_161
            refine g_goto (tgt := 179) hX dX2_makeLevel_164 (by decide) ?_
            refine g_vret hX hE dX2_makeLevel_179 (by omega) (by omega) ?_
            exact ⟨_, rfl, by rw [mkl, if_neg c_23, if_neg c_56]; simp only [c_134, c_152, if_true, if_false]⟩
          · refine g_iconst hX (2) dX2_makeLevel_155 rfl ?_
            refine g_goto (tgt := 160) hX dX2_makeLevel_156 (by decide) ?_
            refine g_isub hX dX2_makeLevel_160 ?_
            refine c_callV_V hX [.int (2 - 2)] 6 (by decide) rfl (by decide) rfl (k_X2_moveLevel I (2 - 2)) gX2_makeLevel_X2_moveLevel rfl rfl rfl hd_X2_moveLevel ⟨Nat.le_of_ble_eq_true rfl, Nat.le_of_ble_eq_true rfl⟩ ⟨Nat.zero_le _, Nat.zero_le _⟩ rfl (Nat.le_of_ble_eq_true rfl) dX2_makeLevel_161 (fun J_161 h_161 => ?_)
            subst h_161
            refine g_goto (tgt := 179) hX dX2_makeLevel_164 (by decide) ?_
            refine g_vret hX hE dX2_makeLevel_179 (by omega) (by omega) ?_
            exact ⟨_, rfl, by rw [mkl, if_neg c_23, if_neg c_56]; simp only [c_134, c_152, if_true, if_false]⟩
      · refine g_iload_n hX 0 rfl dX2_makeLevel_137 rfl ?_
        refine g_if_eq (tgt := 167) hX dX2_makeLevel_138 (by decide) (fun c_138 => ?_) (fun c_138 => ?_)
        · refine g_aload_n hX 2 rfl dX2_makeLevel_167 rfl ?_
          refine g_iconst hX (3) dX2_makeLevel_168 rfl ?_
          refine g_aload_n hX 2 rfl dX2_makeLevel_169 rfl ?_
          refine cg_X2_strength hX (by decide) rfl q_inX2 q_w4 dX2_makeLevel_170 ?_
          refine c_callI_S hX [.int 3, .int (I 3 6)] (k_J6_compare_7cf53 I 3 (I 3 6)) gX2_makeLevel_J6_compare_7cf53 rfl rfl rfl hd_J6_compare_7cf53.2 ⟨Nat.le_of_ble_eq_true rfl, Nat.le_of_ble_eq_true rfl⟩ ⟨Nat.zero_le _, Nat.zero_le _⟩ rfl (Nat.le_of_ble_eq_true rfl) dX2_makeLevel_173 (fun r_173 J_173 h_173 => ?_)
          obtain ⟨rfl, rfl⟩ := h_173
          refine c_callV_V hX [.int (cmp3 3 (I 3 6))] 6 (by decide) rfl (by decide) rfl (k_X2_moveLevel I (cmp3 3 (I 3 6))) gX2_makeLevel_X2_moveLevel rfl rfl rfl hd_X2_moveLevel ⟨Nat.le_of_ble_eq_true rfl, Nat.le_of_ble_eq_true rfl⟩ ⟨Nat.zero_le _, Nat.zero_le _⟩ rfl (Nat.le_of_ble_eq_true rfl) dX2_makeLevel_176 (fun J_176 h_176 => ?_)
          subst h_176
          refine g_vret hX hE dX2_makeLevel_179 (by omega) (by omega) ?_
          exact ⟨_, rfl, by rw [mkl, if_neg c_23, if_neg c_56]; simp only [c_134, c_138, if_true, if_false]⟩
        · refine g_aload_n hX 2 rfl dX2_makeLevel_141 rfl ?_
          refine g_iload_n hX 1 rfl dX2_makeLevel_142 rfl ?_
          refine g_if_eq (tgt := 150) hX dX2_makeLevel_143 (by decide) (fun c_143 => ?_) (fun c_143 => ?_)
          · refine g_iconst hX (0) dX2_makeLevel_150 rfl ?_
            refine g_iload_n hX 0 rfl dX2_makeLevel_151 rfl ?_
            refine g_if_eq (tgt := 159) hX dX2_makeLevel_152 (by decide) (fun c_152 => ?_) (fun c_152 => ?_)
            · first | exact absurd c_138 c_152 | exact absurd c_152 c_138
            · refine g_iconst hX (2) dX2_makeLevel_155 rfl ?_
              refine g_goto (tgt := 160) hX dX2_makeLevel_156 (by decide) ?_
              refine g_isub hX dX2_makeLevel_160 ?_
              refine c_callV_V hX [.int (0 - 2)] 6 (by decide) rfl (by decide) rfl (k_X2_moveLevel I (0 - 2)) gX2_makeLevel_X2_moveLevel rfl rfl rfl hd_X2_moveLevel ⟨Nat.le_of_ble_eq_true rfl, Nat.le_of_ble_eq_true rfl⟩ ⟨Nat.zero_le _, Nat.zero_le _⟩ rfl (Nat.le_of_ble_eq_true rfl) dX2_makeLevel_161 (fun J_161 h_161 => ?_)
              subst h_161
              refine g_goto (tgt := 179) hX dX2_makeLevel_164 (by decide) ?_
              refine g_vret hX hE dX2_makeLevel_179 (by omega) (by omega) ?_
              exact ⟨_, rfl, by rw [mkl, if_neg c_23, if_neg c_56]; simp only [c_134, c_138, if_true, if_false]⟩
          · first | exact absurd c_134 c_143 | exact absurd c_143 c_134
    · refine g_iload_n hX 1 rfl dX2_makeLevel_59 rfl ?_
      refine g_if_eq (tgt := 79) hX dX2_makeLevel_60 (by decide) (fun c_60 => ?_) (fun c_60 => ?_)
      · refine g_iconst hX (0) dX2_makeLevel_79 rfl ?_
        refine g_istore hX [(4, .int 0), (3, .int (ir x 14)), (2, .int (ir x 13)), (0, .ref (ad 3)), (1, .int x)] rfl dX2_makeLevel_80 (by decide) ?_
        refine g_iload_n hX 1 rfl dX2_makeLevel_82 rfl ?_
        refine g_if_eq (tgt := 102) hX dX2_makeLevel_83 (by decide) (fun c_83 => ?_) (fun c_83 => ?_)
        · refine g_iconst hX (0) dX2_makeLevel_102 rfl ?_
          refine g_istore hX [(5, .int 0), (4, .int 0), (3, .int (ir x 14)), (2, .int (ir x 13)), (0, .ref (ad 3)), (1, .int x)] rfl dX2_makeLevel_103 (by decide) ?_
          refine g_aload_n hX 4 rfl dX2_makeLevel_105 rfl ?_
          refine g_iload hX 1 rfl dX2_makeLevel_106 ?_
          refine g_if_eq (tgt := 115) hX dX2_makeLevel_108 (by decide) (fun c_108 => ?_) (fun c_108 => ?_)
          · refine g_iconst hX (0) dX2_makeLevel_115 rfl ?_
            refine g_iload hX 0 rfl dX2_makeLevel_116 ?_
            refine g_if_eq (tgt := 125) hX dX2_makeLevel_118 (by decide) (fun c_118 => ?_) (fun c_118 => ?_)
            · refine g_iconst hX (0) dX2_makeLevel_125 rfl ?_
              refine g_isub hX dX2_makeLevel_126 ?_
              refine c_callV_V hX [.int (0 - 0)] 6 (by decide) rfl (by decide) rfl (k_X2_moveLevel I (0 - 0)) gX2_makeLevel_X2_moveLevel rfl rfl rfl hd_X2_moveLevel ⟨Nat.le_of_ble_eq_true rfl, Nat.le_of_ble_eq_true rfl⟩ ⟨Nat.zero_le _, Nat.zero_le _⟩ rfl (Nat.le_of_ble_eq_true rfl) dX2_makeLevel_127 (fun J_127 h_127 => ?_)
              subst h_127
              refine g_goto (tgt := 179) hX dX2_makeLevel_130 (by decide) ?_
              refine g_vret hX hE dX2_makeLevel_179 (by omega) (by omega) ?_
              exact ⟨_, rfl, by rw [mkl, if_neg c_23, if_pos c_56]; simp only [c_60, c_83, if_true, if_false]⟩
            · first | exact absurd c_118 (by decide) | exact absurd (by decide) c_118
          · first | exact absurd c_108 (by decide) | exact absurd (by decide) c_108
        · refine g_aload_n hX 3 rfl dX2_makeLevel_86 rfl ?_
          refine cg_X2_readAhead hX (by decide) rfl q_inX2 q_w3 dX2_makeLevel_87 ?_
          refine g_bipush hX (14) dX2_makeLevel_90 rfl ?_
          refine c_callI_S hX [.int (I 3 12), .int 14] (k_X2_isRead I (I 3 12) 14) gX2_makeLevel_X2_isRead rfl rfl rfl hd_X2_isRead.2 ⟨Nat.le_of_ble_eq_true rfl, Nat.le_of_ble_eq_true rfl⟩ ⟨Nat.zero_le _, Nat.zero_le _⟩ rfl (Nat.le_of_ble_eq_true rfl) dX2_makeLevel_92 (fun r_92 J_92 h_92 => ?_)
          obtain ⟨rfl, rfl⟩ := h_92
          refine g_if_ne (tgt := 102) hX dX2_makeLevel_95 (by decide) (fun c_95 => ?_) (fun c_95 => ?_)
          · refine g_iconst hX (0) dX2_makeLevel_102 rfl ?_
            refine g_istore hX [(5, .int 0), (4, .int 0), (3, .int (ir x 14)), (2, .int (ir x 13)), (0, .ref (ad 3)), (1, .int x)] rfl dX2_makeLevel_103 (by decide) ?_
            refine g_aload_n hX 4 rfl dX2_makeLevel_105 rfl ?_
            refine g_iload hX 1 rfl dX2_makeLevel_106 ?_
            refine g_if_eq (tgt := 115) hX dX2_makeLevel_108 (by decide) (fun c_108 => ?_) (fun c_108 => ?_)
            · refine g_iconst hX (0) dX2_makeLevel_115 rfl ?_
              refine g_iload hX 0 rfl dX2_makeLevel_116 ?_
              refine g_if_eq (tgt := 125) hX dX2_makeLevel_118 (by decide) (fun c_118 => ?_) (fun c_118 => ?_)
              · refine g_iconst hX (0) dX2_makeLevel_125 rfl ?_
                refine g_isub hX dX2_makeLevel_126 ?_
                refine c_callV_V hX [.int (0 - 0)] 6 (by decide) rfl (by decide) rfl (k_X2_moveLevel I (0 - 0)) gX2_makeLevel_X2_moveLevel rfl rfl rfl hd_X2_moveLevel ⟨Nat.le_of_ble_eq_true rfl, Nat.le_of_ble_eq_true rfl⟩ ⟨Nat.zero_le _, Nat.zero_le _⟩ rfl (Nat.le_of_ble_eq_true rfl) dX2_makeLevel_127 (fun J_127 h_127 => ?_)
                subst h_127
                refine g_goto (tgt := 179) hX dX2_makeLevel_130 (by decide) ?_
                refine g_vret hX hE dX2_makeLevel_179 (by omega) (by omega) ?_
                exact ⟨_, rfl, by rw [mkl, if_neg c_23, if_pos c_56]; simp only [c_60, c_83, c_95, if_true, if_false]⟩
              · first | exact absurd c_118 (by decide) | exact absurd (by decide) c_118
            · first | exact absurd c_108 (by decide) | exact absurd (by decide) c_108
          · refine g_iconst hX (1) dX2_makeLevel_98 rfl ?_
            refine g_goto (tgt := 103) hX dX2_makeLevel_99 (by decide) ?_
            refine g_istore hX [(5, .int 1), (4, .int 0), (3, .int (ir x 14)), (2, .int (ir x 13)), (0, .ref (ad 3)), (1, .int x)] rfl dX2_makeLevel_103 (by decide) ?_
            refine g_aload_n hX 4 rfl dX2_makeLevel_105 rfl ?_
            refine g_iload hX 1 rfl dX2_makeLevel_106 ?_
            refine g_if_eq (tgt := 115) hX dX2_makeLevel_108 (by decide) (fun c_108 => ?_) (fun c_108 => ?_)
            · refine g_iconst hX (0) dX2_makeLevel_115 rfl ?_
              refine g_iload hX 0 rfl dX2_makeLevel_116 ?_
              refine g_if_eq (tgt := 125) hX dX2_makeLevel_118 (by decide) (fun c_118 => ?_) (fun c_118 => ?_)
              · first | exact absurd c_118 (by decide) | exact absurd (by decide) c_118
              · refine g_iconst hX (1) dX2_makeLevel_121 rfl ?_
                refine g_goto (tgt := 126) hX dX2_makeLevel_122 (by decide) ?_
                refine g_isub hX dX2_makeLevel_126 ?_
                refine c_callV_V hX [.int (0 - 1)] 6 (by decide) rfl (by decide) rfl (k_X2_moveLevel I (0 - 1)) gX2_makeLevel_X2_moveLevel rfl rfl rfl hd_X2_moveLevel ⟨Nat.le_of_ble_eq_true rfl, Nat.le_of_ble_eq_true rfl⟩ ⟨Nat.zero_le _, Nat.zero_le _⟩ rfl (Nat.le_of_ble_eq_true rfl) dX2_makeLevel_127 (fun J_127 h_127 => ?_)
                subst h_127
                refine g_goto (tgt := 179) hX dX2_makeLevel_130 (by decide) ?_
                refine g_vret hX hE dX2_makeLevel_179 (by omega) (by omega) ?_
                exact ⟨_, rfl, by rw [mkl, if_neg c_23, if_pos c_56]; simp only [c_60, c_83, c_95, if_true, if_false]⟩
            · first | exact absurd c_108 (by decide) | exact absurd (by decide) c_108
      · refine g_aload_n hX 2 rfl dX2_makeLevel_63 rfl ?_
        refine cg_X2_readAhead hX (by decide) rfl q_inX2 q_w3 dX2_makeLevel_64 ?_
        refine g_bipush hX (13) dX2_makeLevel_67 rfl ?_
        refine c_callI_S hX [.int (I 3 12), .int 13] (k_X2_isRead I (I 3 12) 13) gX2_makeLevel_X2_isRead rfl rfl rfl hd_X2_isRead.2 ⟨Nat.le_of_ble_eq_true rfl, Nat.le_of_ble_eq_true rfl⟩ ⟨Nat.zero_le _, Nat.zero_le _⟩ rfl (Nat.le_of_ble_eq_true rfl) dX2_makeLevel_69 (fun r_69 J_69 h_69 => ?_)
        obtain ⟨rfl, rfl⟩ := h_69
        refine g_if_ne (tgt := 79) hX dX2_makeLevel_72 (by decide) (fun c_72 => ?_) (fun c_72 => ?_)
        · refine g_iconst hX (0) dX2_makeLevel_79 rfl ?_
          refine g_istore hX [(4, .int 0), (3, .int (ir x 14)), (2, .int (ir x 13)), (0, .ref (ad 3)), (1, .int x)] rfl dX2_makeLevel_80 (by decide) ?_
          refine g_iload_n hX 1 rfl dX2_makeLevel_82 rfl ?_
          refine g_if_eq (tgt := 102) hX dX2_makeLevel_83 (by decide) (fun c_83 => ?_) (fun c_83 => ?_)
          · refine g_iconst hX (0) dX2_makeLevel_102 rfl ?_
            refine g_istore hX [(5, .int 0), (4, .int 0), (3, .int (ir x 14)), (2, .int (ir x 13)), (0, .ref (ad 3)), (1, .int x)] rfl dX2_makeLevel_103 (by decide) ?_
            refine g_aload_n hX 4 rfl dX2_makeLevel_105 rfl ?_
            refine g_iload hX 1 rfl dX2_makeLevel_106 ?_
            refine g_if_eq (tgt := 115) hX dX2_makeLevel_108 (by decide) (fun c_108 => ?_) (fun c_108 => ?_)
            · refine g_iconst hX (0) dX2_makeLevel_115 rfl ?_
              refine g_iload hX 0 rfl dX2_makeLevel_116 ?_
              refine g_if_eq (tgt := 125) hX dX2_makeLevel_118 (by decide) (fun c_118 => ?_) (fun c_118 => ?_)
              · refine g_iconst hX (0) dX2_makeLevel_125 rfl ?_
                refine g_isub hX dX2_makeLevel_126 ?_
                refine c_callV_V hX [.int (0 - 0)] 6 (by decide) rfl (by decide) rfl (k_X2_moveLevel I (0 - 0)) gX2_makeLevel_X2_moveLevel rfl rfl rfl hd_X2_moveLevel ⟨Nat.le_of_ble_eq_true rfl, Nat.le_of_ble_eq_true rfl⟩ ⟨Nat.zero_le _, Nat.zero_le _⟩ rfl (Nat.le_of_ble_eq_true rfl) dX2_makeLevel_127 (fun J_127 h_127 => ?_)
                subst h_127
                refine g_goto (tgt := 179) hX dX2_makeLevel_130 (by decide) ?_
                refine g_vret hX hE dX2_makeLevel_179 (by omega) (by omega) ?_
                exact ⟨_, rfl, by rw [mkl, if_neg c_23, if_pos c_56]; simp only [c_60, c_72, c_83, if_true, if_false]⟩
              · first | exact absurd c_118 (by decide) | exact absurd (by decide) c_118
            · first | exact absurd c_108 (by decide) | exact absurd (by decide) c_108
          · refine g_aload_n hX 3 rfl dX2_makeLevel_86 rfl ?_
            refine cg_X2_readAhead hX (by decide) rfl q_inX2 q_w3 dX2_makeLevel_87 ?_
            refine g_bipush hX (14) dX2_makeLevel_90 rfl ?_
            refine c_callI_S hX [.int (I 3 12), .int 14] (k_X2_isRead I (I 3 12) 14) gX2_makeLevel_X2_isRead rfl rfl rfl hd_X2_isRead.2 ⟨Nat.le_of_ble_eq_true rfl, Nat.le_of_ble_eq_true rfl⟩ ⟨Nat.zero_le _, Nat.zero_le _⟩ rfl (Nat.le_of_ble_eq_true rfl) dX2_makeLevel_92 (fun r_92 J_92 h_92 => ?_)
            obtain ⟨rfl, rfl⟩ := h_92
            refine g_if_ne (tgt := 102) hX dX2_makeLevel_95 (by decide) (fun c_95 => ?_) (fun c_95 => ?_)
            · refine g_iconst hX (0) dX2_makeLevel_102 rfl ?_
              refine g_istore hX [(5, .int 0), (4, .int 0), (3, .int (ir x 14)), (2, .int (ir x 13)), (0, .ref (ad 3)), (1, .int x)] rfl dX2_makeLevel_103 (by decide) ?_
              refine g_aload_n hX 4 rfl dX2_makeLevel_105 rfl ?_
              refine g_iload hX 1 rfl dX2_makeLevel_106 ?_
              refine g_if_eq (tgt := 115) hX dX2_makeLevel_108 (by decide) (fun c_108 => ?_) (fun c_108 => ?_)
              · refine g_iconst hX (0) dX2_makeLevel_115 rfl ?_
                refine g_iload hX 0 rfl dX2_makeLevel_116 ?_
                refine g_if_eq (tgt := 125) hX dX2_makeLevel_118 (by decide) (fun c_118 => ?_) (fun c_118 => ?_)
                · refine g_iconst hX (0) dX2_makeLevel_125 rfl ?_
                  refine g_isub hX dX2_makeLevel_126 ?_
                  refine c_callV_V hX [.int (0 - 0)] 6 (by decide) rfl (by decide) rfl (k_X2_moveLevel I (0 - 0)) gX2_makeLevel_X2_moveLevel rfl rfl rfl hd_X2_moveLevel ⟨Nat.le_of_ble_eq_true rfl, Nat.le_of_ble_eq_true rfl⟩ ⟨Nat.zero_le _, Nat.zero_le _⟩ rfl (Nat.le_of_ble_eq_true rfl) dX2_makeLevel_127 (fun J_127 h_127 => ?_)
                  subst h_127
                  refine g_goto (tgt := 179) hX dX2_makeLevel_130 (by decide) ?_
                  refine g_vret hX hE dX2_makeLevel_179 (by omega) (by omega) ?_
                  exact ⟨_, rfl, by rw [mkl, if_neg c_23, if_pos c_56]; simp only [c_60, c_72, c_83, c_95, if_true, if_false]⟩
                · first | exact absurd c_118 (by decide) | exact absurd (by decide) c_118
              · first | exact absurd c_108 (by decide) | exact absurd (by decide) c_108
            · refine g_iconst hX (1) dX2_makeLevel_98 rfl ?_
              refine g_goto (tgt := 103) hX dX2_makeLevel_99 (by decide) ?_
              refine g_istore hX [(5, .int 1), (4, .int 0), (3, .int (ir x 14)), (2, .int (ir x 13)), (0, .ref (ad 3)), (1, .int x)] rfl dX2_makeLevel_103 (by decide) ?_
              refine g_aload_n hX 4 rfl dX2_makeLevel_105 rfl ?_
              refine g_iload hX 1 rfl dX2_makeLevel_106 ?_
              refine g_if_eq (tgt := 115) hX dX2_makeLevel_108 (by decide) (fun c_108 => ?_) (fun c_108 => ?_)
              · refine g_iconst hX (0) dX2_makeLevel_115 rfl ?_
                refine g_iload hX 0 rfl dX2_makeLevel_116 ?_
                refine g_if_eq (tgt := 125) hX dX2_makeLevel_118 (by decide) (fun c_118 => ?_) (fun c_118 => ?_)
                · first | exact absurd c_118 (by decide) | exact absurd (by decide) c_118
                · refine g_iconst hX (1) dX2_makeLevel_121 rfl ?_
                  refine g_goto (tgt := 126) hX dX2_makeLevel_122 (by decide) ?_
                  refine g_isub hX dX2_makeLevel_126 ?_
                  refine c_callV_V hX [.int (0 - 1)] 6 (by decide) rfl (by decide) rfl (k_X2_moveLevel I (0 - 1)) gX2_makeLevel_X2_moveLevel rfl rfl rfl hd_X2_moveLevel ⟨Nat.le_of_ble_eq_true rfl, Nat.le_of_ble_eq_true rfl⟩ ⟨Nat.zero_le _, Nat.zero_le _⟩ rfl (Nat.le_of_ble_eq_true rfl) dX2_makeLevel_127 (fun J_127 h_127 => ?_)
                  subst h_127
                  refine g_goto (tgt := 179) hX dX2_makeLevel_130 (by decide) ?_
                  refine g_vret hX hE dX2_makeLevel_179 (by omega) (by omega) ?_
                  exact ⟨_, rfl, by rw [mkl, if_neg c_23, if_pos c_56]; simp only [c_60, c_72, c_83, c_95, if_true, if_false]⟩
              · first | exact absurd c_108 (by decide) | exact absurd (by decide) c_108
        · refine g_iconst hX (1) dX2_makeLevel_75 rfl ?_
          refine g_goto (tgt := 80) hX dX2_makeLevel_76 (by decide) ?_
          refine g_istore hX [(4, .int 1), (3, .int (ir x 14)), (2, .int (ir x 13)), (0, .ref (ad 3)), (1, .int x)] rfl dX2_makeLevel_80 (by decide) ?_
          refine g_iload_n hX 1 rfl dX2_makeLevel_82 rfl ?_
          refine g_if_eq (tgt := 102) hX dX2_makeLevel_83 (by decide) (fun c_83 => ?_) (fun c_83 => ?_)
          · refine g_iconst hX (0) dX2_makeLevel_102 rfl ?_
            refine g_istore hX [(5, .int 0), (4, .int 1), (3, .int (ir x 14)), (2, .int (ir x 13)), (0, .ref (ad 3)), (1, .int x)] rfl dX2_makeLevel_103 (by decide) ?_
            refine g_aload_n hX 4 rfl dX2_makeLevel_105 rfl ?_
            refine g_iload hX 1 rfl dX2_makeLevel_106 ?_
            refine g_if_eq (tgt := 115) hX dX2_makeLevel_108 (by decide) (fun c_108 => ?_) (fun c_108 => ?_)
            · first | exact absurd c_108 (by decide) | exact absurd (by decide) c_108
            · refine g_iconst hX (1) dX2_makeLevel_111 rfl ?_
              refine g_goto (tgt := 116) hX dX2_makeLevel_112 (by decide) ?_
              refine g_iload hX 0 rfl dX2_makeLevel_116 ?_
              refine g_if_eq (tgt := 125) hX dX2_makeLevel_118 (by decide) (fun c_118 => ?_) (fun c_118 => ?_)
              · refine g_iconst hX (0) dX2_makeLevel_125 rfl ?_
                refine g_isub hX dX2_makeLevel_126 ?_
                refine c_callV_V hX [.int (1 - 0)] 6 (by decide) rfl (by decide) rfl (k_X2_moveLevel I (1 - 0)) gX2_makeLevel_X2_moveLevel rfl rfl rfl hd_X2_moveLevel ⟨Nat.le_of_ble_eq_true rfl, Nat.le_of_ble_eq_true rfl⟩ ⟨Nat.zero_le _, Nat.zero_le _⟩ rfl (Nat.le_of_ble_eq_true rfl) dX2_makeLevel_127 (fun J_127 h_127 => ?_)
                subst h_127
                refine g_goto (tgt := 179) hX dX2_makeLevel_130 (by decide) ?_
                refine g_vret hX hE dX2_makeLevel_179 (by omega) (by omega) ?_
                exact ⟨_, rfl, by rw [mkl, if_neg c_23, if_pos c_56]; simp only [c_60, c_72, c_83, if_true, if_false]⟩
              · first | exact absurd c_118 (by decide) | exact absurd (by decide) c_118
          · refine g_aload_n hX 3 rfl dX2_makeLevel_86 rfl ?_
            refine cg_X2_readAhead hX (by decide) rfl q_inX2 q_w3 dX2_makeLevel_87 ?_
            refine g_bipush hX (14) dX2_makeLevel_90 rfl ?_
            refine c_callI_S hX [.int (I 3 12), .int 14] (k_X2_isRead I (I 3 12) 14) gX2_makeLevel_X2_isRead rfl rfl rfl hd_X2_isRead.2 ⟨Nat.le_of_ble_eq_true rfl, Nat.le_of_ble_eq_true rfl⟩ ⟨Nat.zero_le _, Nat.zero_le _⟩ rfl (Nat.le_of_ble_eq_true rfl) dX2_makeLevel_92 (fun r_92 J_92 h_92 => ?_)
            obtain ⟨rfl, rfl⟩ := h_92
            refine g_if_ne (tgt := 102) hX dX2_makeLevel_95 (by decide) (fun c_95 => ?_) (fun c_95 => ?_)
            · refine g_iconst hX (0) dX2_makeLevel_102 rfl ?_
              refine g_istore hX [(5, .int 0), (4, .int 1), (3, .int (ir x 14)), (2, .int (ir x 13)), (0, .ref (ad 3)), (1, .int x)] rfl dX2_makeLevel_103 (by decide) ?_
              refine g_aload_n hX 4 rfl dX2_makeLevel_105 rfl ?_
              refine g_iload hX 1 rfl dX2_makeLevel_106 ?_
              refine g_if_eq (tgt := 115) hX dX2_makeLevel_108 (by decide) (fun c_108 => ?_) (fun c_108 => ?_)
              · first | exact absurd c_108 (by decide) | exact absurd (by decide) c_108
              · refine g_iconst hX (1) dX2_makeLevel_111 rfl ?_
                refine g_goto (tgt := 116) hX dX2_makeLevel_112 (by decide) ?_
                refine g_iload hX 0 rfl dX2_makeLevel_116 ?_
                refine g_if_eq (tgt := 125) hX dX2_makeLevel_118 (by decide) (fun c_118 => ?_) (fun c_118 => ?_)
                · refine g_iconst hX (0) dX2_makeLevel_125 rfl ?_
                  refine g_isub hX dX2_makeLevel_126 ?_
                  refine c_callV_V hX [.int (1 - 0)] 6 (by decide) rfl (by decide) rfl (k_X2_moveLevel I (1 - 0)) gX2_makeLevel_X2_moveLevel rfl rfl rfl hd_X2_moveLevel ⟨Nat.le_of_ble_eq_true rfl, Nat.le_of_ble_eq_true rfl⟩ ⟨Nat.zero_le _, Nat.zero_le _⟩ rfl (Nat.le_of_ble_eq_true rfl) dX2_makeLevel_127 (fun J_127 h_127 => ?_)
                  subst h_127
                  refine g_goto (tgt := 179) hX dX2_makeLevel_130 (by decide) ?_
                  refine g_vret hX hE dX2_makeLevel_179 (by omega) (by omega) ?_
                  exact ⟨_, rfl, by rw [mkl, if_neg c_23, if_pos c_56]; simp only [c_60, c_72, c_83, c_95, if_true, if_false]⟩
                · first | exact absurd c_118 (by decide) | exact absurd (by decide) c_118
            · refine g_iconst hX (1) dX2_makeLevel_98 rfl ?_
              refine g_goto (tgt := 103) hX dX2_makeLevel_99 (by decide) ?_
              refine g_istore hX [(5, .int 1), (4, .int 1), (3, .int (ir x 14)), (2, .int (ir x 13)), (0, .ref (ad 3)), (1, .int x)] rfl dX2_makeLevel_103 (by decide) ?_
              refine g_aload_n hX 4 rfl dX2_makeLevel_105 rfl ?_
              refine g_iload hX 1 rfl dX2_makeLevel_106 ?_
              refine g_if_eq (tgt := 115) hX dX2_makeLevel_108 (by decide) (fun c_108 => ?_) (fun c_108 => ?_)
              · first | exact absurd c_108 (by decide) | exact absurd (by decide) c_108
              · refine g_iconst hX (1) dX2_makeLevel_111 rfl ?_
                refine g_goto (tgt := 116) hX dX2_makeLevel_112 (by decide) ?_
                refine g_iload hX 0 rfl dX2_makeLevel_116 ?_
                refine g_if_eq (tgt := 125) hX dX2_makeLevel_118 (by decide) (fun c_118 => ?_) (fun c_118 => ?_)
                · first | exact absurd c_118 (by decide) | exact absurd (by decide) c_118
                · refine g_iconst hX (1) dX2_makeLevel_121 rfl ?_
                  refine g_goto (tgt := 126) hX dX2_makeLevel_122 (by decide) ?_
                  refine g_isub hX dX2_makeLevel_126 ?_
                  refine c_callV_V hX [.int (1 - 1)] 6 (by decide) rfl (by decide) rfl (k_X2_moveLevel I (1 - 1)) gX2_makeLevel_X2_moveLevel rfl rfl rfl hd_X2_moveLevel ⟨Nat.le_of_ble_eq_true rfl, Nat.le_of_ble_eq_true rfl⟩ ⟨Nat.zero_le _, Nat.zero_le _⟩ rfl (Nat.le_of_ble_eq_true rfl) dX2_makeLevel_127 (fun J_127 h_127 => ?_)
                  subst h_127
                  refine g_goto (tgt := 179) hX dX2_makeLevel_130 (by decide) ?_
                  refine g_vret hX hE dX2_makeLevel_179 (by omega) (by omega) ?_
                  exact ⟨_, rfl, by rw [mkl, if_neg c_23, if_pos c_56]; simp only [c_60, c_72, c_83, c_95, if_true, if_false]⟩
  · refine g_aload_n hX 2 rfl dX2_makeLevel_26 rfl ?_
    refine g_aload_n hX 2 rfl dX2_makeLevel_27 rfl ?_
    refine g_iload_n hX 1 rfl dX2_makeLevel_28 rfl ?_
    refine g_iload_n hX 0 rfl dX2_makeLevel_29 rfl ?_
    refine c_callI_V hX [.int (ir x 13), .int (ir x 14)] 6 (by decide) rfl (by decide) rfl (k_X2_latch I hb (ir x 13) (ir x 14)) gX2_makeLevel_X2_latch rfl rfl rfl hd_X2_latch ⟨Nat.le_of_ble_eq_true rfl, Nat.le_of_ble_eq_true rfl⟩ ⟨Nat.zero_le _, Nat.zero_le _⟩ rfl (Nat.le_of_ble_eq_true rfl) dX2_makeLevel_30 (fun r_30 J_30 h_30 => ?_)
    obtain ⟨rfl, rfl⟩ := h_30
    refine g_if_eq (tgt := 40) hX dX2_makeLevel_33 (by decide) (fun c_33 => ?_) (fun c_33 => ?_)
    · refine g_iconst hX (-1) dX2_makeLevel_40 rfl ?_
      refine c_callV_V hX [.int (-1)] 6 (by decide) rfl (by decide) rfl (k_X2_moveLevel (latI I (ir x 13) (ir x 14)) (-1)) gX2_makeLevel_X2_moveLevel rfl rfl rfl hd_X2_moveLevel ⟨Nat.le_of_ble_eq_true rfl, Nat.le_of_ble_eq_true rfl⟩ ⟨Nat.zero_le _, Nat.zero_le _⟩ rfl (Nat.le_of_ble_eq_true rfl) dX2_makeLevel_41 (fun J_41 h_41 => ?_)
      subst h_41
      refine g_goto (tgt := 179) hX dX2_makeLevel_44 (by decide) ?_
      refine g_vret hX hE dX2_makeLevel_179 (by omega) (by omega) ?_
      exact ⟨_, rfl, by rw [mkl, if_pos c_23]; simp only [c_33, if_true, if_false]⟩
    · refine g_iconst hX (1) dX2_makeLevel_36 rfl ?_
      refine g_goto (tgt := 41) hX dX2_makeLevel_37 (by decide) ?_
      refine c_callV_V hX [.int 1] 6 (by decide) rfl (by decide) rfl (k_X2_moveLevel (latI I (ir x 13) (ir x 14)) 1) gX2_makeLevel_X2_moveLevel rfl rfl rfl hd_X2_moveLevel ⟨Nat.le_of_ble_eq_true rfl, Nat.le_of_ble_eq_true rfl⟩ ⟨Nat.zero_le _, Nat.zero_le _⟩ rfl (Nat.le_of_ble_eq_true rfl) dX2_makeLevel_41 (fun J_41 h_41 => ?_)
      subst h_41
      refine g_goto (tgt := 179) hX dX2_makeLevel_44 (by decide) ?_
      refine g_vret hX hE dX2_makeLevel_179 (by omega) (by omega) ?_
      exact ⟨_, rfl, by rw [mkl, if_pos c_23]; simp only [c_33, if_true, if_false]⟩
abbrev rm_X2_findFed : Room := { frames := 1, cells := 0, slots := 0, locals := 21 }
theorem hd_X2_findFed : yX2_findFed.cls = RX2 ∧ yX2_findFed.cls ≠ "java/lang/invoke/MethodHandle" ∧ yX2_findFed.cls ≠ "java/lang/invoke/VarHandle" ∧ (parseMethodDescriptor yX2_findFed.desc).map (fun d => d.parameters.length) = some 1 := by decide +kernel
set_option maxRecDepth 100000 in
set_option maxHeartbeats 4000000 in
theorem k_X2_findFed {D : va_G} {dT : Nat → ClassId} {ad : Nat → Nat} (I : Nat → Nat → Int32) (x : Int32) : KI yX2_findFed wsX2_findFed rm_X2_findFed D dT ad I [.ref (ad 3), .int x] (fun r J => I = J ∧ ffd I x 12 = r) := by
  intro l9
  refine ci_of (own := RX2) (cc := cX2_findFed) (maxL := 4) (some .int) [(0, .ref (ad 3)), (1, .int x)] (by decide) rfl rfl rfl (Nat.le_of_ble_eq_true rfl) ?_
  intro X hX hE hN
  have q_w1 : Cond.fieldLink RX2 20 "Perforatum$Player" "valves" "[LPerforatum$Valve;" ∈ wsX2_findFed := List.mem_of_getElem? (i := 1) rfl
  have q_inX2 : ∀ w ∈ wsX20, w ∈ wsX2_findFed := by decide +kernel
  have q_w2 : Cond.fieldLink RX2 136 "Perforatum$Valve" "lender" "I" ∈ wsX2_findFed := List.mem_of_getElem? (i := 2) rfl
  have q_inX5 : ∀ w ∈ wsX50, w ∈ wsX2_findFed := by decide +kernel
  refine g_iconst hX (0) dX2_findFed_0 rfl ?_
  refine g_istore_n hX [(2, .int 0), (0, .ref (ad 3)), (1, .int x)] rfl dX2_findFed_1 rfl (by decide) ?_
  refine g_iconst hX (0) dX2_findFed_2 rfl ?_
  refine g_istore_n hX [(3, .int 0), (2, .int 0), (0, .ref (ad 3)), (1, .int x)] rfl dX2_findFed_3 rfl (by decide) ?_
  have lp_4 : ∀ (n9 : Nat) (k : Nat) (q : Int32), 12 - k < n9 → k ≤ 12 → q = ffd I x k → CG X D dT ad I [(3, .int (nI k)), (2, .int q), (0, .ref (ad 3)), (1, .int x)] 0 0 4 [] := by
    intro n9
    induction n9 with
    | zero => intro k q h9; exact absurd h9 (Nat.not_lt_zero _)
    | succ n9 ih9 =>
      intro k q h9 hk hq
      have ih_4 := ih9
      refine g_iload_n hX 0 rfl dX2_findFed_4 rfl ?_
      refine g_bipush hX (12) dX2_findFed_5 rfl ?_
      refine g_icmp_ge (tgt := 38) hX dX2_findFed_7 (by decide) (fun c_7 => ?_) (fun c_7 => ?_)
      · have c_7 : 12 ≤ k := (nI_leI (a := 12) (b := k) (by omega) (by omega)).mp c_7
        refine g_iload_n hX 1 rfl dX2_findFed_38 rfl ?_
        refine g_iret hX hE dX2_findFed_39 (by omega) (by omega) ?_
        exact ⟨_, rfl, rfl, by rw [hq, show k = 12 by omega]⟩
      · have c_7 : ¬ 12 ≤ k := fun h9 => c_7 ((nI_leI (a := 12) (b := k) (by omega) (by omega)).mpr h9)
        refine g_iload_n hX 3 rfl dX2_findFed_10 rfl ?_
        refine g_iload_n hX 0 rfl dX2_findFed_11 rfl ?_
        refine c_callI_S hX [.int x, .int (nI k)] (k_X2_isRead I x (nI k)) gX2_findFed_X2_isRead rfl rfl rfl hd_X2_isRead.2 ⟨Nat.le_of_ble_eq_true rfl, Nat.le_of_ble_eq_true rfl⟩ ⟨Nat.zero_le _, Nat.zero_le _⟩ rfl (Nat.le_of_ble_eq_true rfl) dX2_findFed_12 (fun r_12 J_12 h_12 => ?_)
        obtain ⟨rfl, rfl⟩ := h_12
        refine g_if_eq (tgt := 32) hX dX2_findFed_15 (by decide) (fun c_15 => ?_) (fun c_15 => ?_)
        · refine g_iinc hX (nI (k + 1)) [(3, .int (nI (k + 1))), (2, .int q), (0, .ref (ad 3)), (1, .int x)] (k := 0) rfl (g_inc k) rfl dX2_findFed_32 (by decide) ?_
          refine g_goto (tgt := 4) hX dX2_findFed_35 (by decide) ?_
          refine g_lv [0, 1, 2, 3] rfl ?_
          exact ih_4 (k + 1) q (by omega) (by omega) (by rw [hq, ffd]; simp only [c_15, if_true, if_false])
        · refine g_iload_n hX 1 rfl dX2_findFed_18 rfl ?_
          refine g_iconst hX (1) dX2_findFed_19 rfl ?_
          refine g_aload_n hX 2 rfl dX2_findFed_20 rfl ?_
          refine cg_X2_valves hX (by decide) rfl q_inX2 q_w1 rfl dX2_findFed_21 ?_
          refine g_iload_n hX 0 rfl dX2_findFed_24 rfl ?_
          refine c_aaldv hX k (by omega) dX2_findFed_25 ?_
          refine cg_X5_lender hX (by omega) (cK_v (by omega)) q_inX5 q_w2 dX2_findFed_26 ?_
          refine g_ishl hX dX2_findFed_29 ?_
          refine g_ior hX dX2_findFed_30 ?_
          refine g_istore_n hX [(2, .int (q ||| (1 <<< ((I (24 + k) 3) &&& 31)))), (3, .int (nI k)), (0, .ref (ad 3)), (1, .int x)] rfl dX2_findFed_31 rfl (by decide) ?_
          refine g_iinc hX (nI (k + 1)) [(3, .int (nI (k + 1))), (2, .int (q ||| (1 <<< ((I (24 + k) 3) &&& 31)))), (0, .ref (ad 3)), (1, .int x)] (k := 1) rfl (g_inc k) rfl dX2_findFed_32 (by decide) ?_
          refine g_goto (tgt := 4) hX dX2_findFed_35 (by decide) ?_
          refine g_lv [0, 1, 2, 3] rfl ?_
          exact ih_4 (k + 1) (q ||| (1 <<< ((I (24 + k) 3) &&& 31))) (by omega) (by omega) (by rw [hq, ffd]; simp only [c_15, if_true, if_false])
  refine g_lv [0, 1, 2, 3] rfl ?_
  exact lp_4 _ 0 0 (Nat.lt_succ_self _) (Nat.zero_le _) rfl
abbrev rm_X2_openValve : Room := { frames := 0, cells := 0, slots := 0, locals := 0 }
theorem hd_X2_openValve : yX2_openValve.cls = RX2 ∧ yX2_openValve.cls ≠ "java/lang/invoke/MethodHandle" ∧ yX2_openValve.cls ≠ "java/lang/invoke/VarHandle" ∧ (parseMethodDescriptor yX2_openValve.desc).map (fun d => d.parameters.length) = some 1 := by decide +kernel
set_option maxRecDepth 100000 in
set_option maxHeartbeats 4000000 in
theorem k_X2_openValve {D : va_G} {dT : Nat → ClassId} {ad : Nat → Nat} (I : Nat → Nat → Int32) (v : Nat) (hv : v < 12) : KV yX2_openValve wsX2_openValve rm_X2_openValve D dT ad I [.ref (ad 3), .ref (ad (24 + v))] (fun J => opV I v = J) := by
  intro l9
  refine cv_of (own := RX2) (cc := cX2_openValve) (maxL := 2) [(0, .ref (ad 3)), (1, .ref (ad (24 + v)))] (by decide) rfl rfl rfl (Nat.le_of_ble_eq_true rfl) ?_
  intro X hX hE hN
  have q_w1 : Cond.fieldLink RX2 163 "Perforatum$Valve" "stands" "Z" ∈ wsX2_openValve := List.mem_of_getElem? (i := 1) rfl
  have q_inX5 : ∀ w ∈ wsX50, w ∈ wsX2_openValve := by decide +kernel
  have q_w2 : Cond.fieldLink RX2 35 "Perforatum$Player" "nextRow" "I" ∈ wsX2_openValve := List.mem_of_getElem? (i := 2) rfl
  have q_inX2 : ∀ w ∈ wsX20, w ∈ wsX2_openValve := by decide +kernel
  have q_w3 : Cond.fieldLink RX2 175 "Perforatum$Valve" "opening" "I" ∈ wsX2_openValve := List.mem_of_getElem? (i := 3) rfl
  have q_w4 : Cond.fieldLink RX2 48 "Perforatum$Player" "openings" "I" ∈ wsX2_openValve := List.mem_of_getElem? (i := 4) rfl
  refine g_aload_n hX 1 rfl dX2_openValve_0 rfl ?_
  refine g_iconst hX (1) dX2_openValve_1 rfl ?_
  refine cp_X5_stands hX (by omega) (cK_v hv) q_inX5 q_w1 rfl rfl dX2_openValve_2 ?_
  refine g_aload_n hX 1 rfl dX2_openValve_5 rfl ?_
  refine g_aload_n hX 0 rfl dX2_openValve_6 rfl ?_
  refine cg_X2_nextRow hX (by decide) rfl q_inX2 q_w2 dX2_openValve_7 ?_
  refine g_eqi (y := I 3 4) ((up2_n (Or.inl (by omega)))) ?_
  refine cp_X5_opening hX (by omega) (cK_v hv) q_inX5 q_w3 dX2_openValve_10 ?_
  refine g_aload_n hX 0 rfl dX2_openValve_13 rfl ?_
  refine g_dup hX dX2_openValve_14 rfl ?_
  refine cg_X2_openings hX (by decide) rfl q_inX2 q_w4 dX2_openValve_15 ?_
  refine g_eqi (y := I 3 8) (((up2_n (Or.inl (by omega)))).trans ((up2_n (Or.inl (by omega))))) ?_
  refine g_iconst hX (1) dX2_openValve_18 rfl ?_
  refine g_iadd hX dX2_openValve_19 ?_
  refine cp_X2_openings hX (by decide) rfl q_inX2 q_w4 dX2_openValve_20 ?_
  refine g_vret hX hE dX2_openValve_23 (by omega) (by omega) ?_
  exact ⟨_, rfl, rfl⟩
abbrev rm_X2_closeValve : Room := { frames := 0, cells := 0, slots := 0, locals := 0 }
theorem hd_X2_closeValve : yX2_closeValve.cls = RX2 ∧ yX2_closeValve.cls ≠ "java/lang/invoke/MethodHandle" ∧ yX2_closeValve.cls ≠ "java/lang/invoke/VarHandle" ∧ (parseMethodDescriptor yX2_closeValve.desc).map (fun d => d.parameters.length) = some 1 := by decide +kernel
set_option maxRecDepth 100000 in
set_option maxHeartbeats 4000000 in
theorem k_X2_closeValve {D : va_G} {dT : Nat → ClassId} {ad : Nat → Nat} (I : Nat → Nat → Int32) (v : Nat) (hv : v < 12) : KV yX2_closeValve wsX2_closeValve rm_X2_closeValve D dT ad I [.ref (ad 3), .ref (ad (24 + v))] (fun J => clV I v = J) := by
  intro l9
  refine cv_of (own := RX2) (cc := cX2_closeValve) (maxL := 2) [(0, .ref (ad 3)), (1, .ref (ad (24 + v)))] (by decide) rfl rfl rfl (Nat.le_of_ble_eq_true rfl) ?_
  intro X hX hE hN
  have q_w1 : Cond.fieldLink RX2 163 "Perforatum$Valve" "stands" "Z" ∈ wsX2_closeValve := List.mem_of_getElem? (i := 1) rfl
  have q_inX5 : ∀ w ∈ wsX50, w ∈ wsX2_closeValve := by decide +kernel
  have q_w2 : Cond.fieldLink RX2 35 "Perforatum$Player" "nextRow" "I" ∈ wsX2_closeValve := List.mem_of_getElem? (i := 2) rfl
  have q_inX2 : ∀ w ∈ wsX20, w ∈ wsX2_closeValve := by decide +kernel
  have q_w3 : Cond.fieldLink RX2 178 "Perforatum$Valve" "closing" "I" ∈ wsX2_closeValve := List.mem_of_getElem? (i := 3) rfl
  have q_w4 : Cond.fieldLink RX2 181 "Perforatum$Valve" "speaks" "Z" ∈ wsX2_closeValve := List.mem_of_getElem? (i := 4) rfl
  have q_w5 : Cond.fieldLink RX2 149 "Perforatum$Valve" "rings" "Z" ∈ wsX2_closeValve := List.mem_of_getElem? (i := 5) rfl
  refine g_aload_n hX 1 rfl dX2_closeValve_0 rfl ?_
  refine g_iconst hX (0) dX2_closeValve_1 rfl ?_
  refine cp_X5_stands hX (by omega) (cK_v hv) q_inX5 q_w1 rfl rfl dX2_closeValve_2 ?_
  refine g_aload_n hX 1 rfl dX2_closeValve_5 rfl ?_
  refine g_aload_n hX 0 rfl dX2_closeValve_6 rfl ?_
  refine cg_X2_nextRow hX (by decide) rfl q_inX2 q_w2 dX2_closeValve_7 ?_
  refine g_eqi (y := I 3 4) ((up2_n (Or.inl (by omega)))) ?_
  refine cp_X5_closing hX (by omega) (cK_v hv) q_inX5 q_w3 dX2_closeValve_10 ?_
  refine g_aload_n hX 1 rfl dX2_closeValve_13 rfl ?_
  refine cg_X5_speaks hX (by omega) (cK_v hv) q_inX5 q_w4 dX2_closeValve_14 ?_
  refine g_eqi (y := I (24 + v) 8) (((up2_n (Or.inr (by decide)))).trans ((up2_n (Or.inr (by decide))))) ?_
  refine g_if_eq (tgt := 30) hX dX2_closeValve_17 (by decide) (fun c_17 => ?_) (fun c_17 => ?_)
  · refine g_vret hX hE dX2_closeValve_30 (by omega) (by omega) ?_
    exact ⟨_, rfl, by simp only [clV, c_17, if_true, if_false]⟩
  · refine g_aload_n hX 1 rfl dX2_closeValve_20 rfl ?_
    refine g_iconst hX (0) dX2_closeValve_21 rfl ?_
    refine cp_X5_speaks hX (by omega) (cK_v hv) q_inX5 q_w4 rfl rfl dX2_closeValve_22 ?_
    refine g_aload_n hX 1 rfl dX2_closeValve_25 rfl ?_
    refine g_iconst hX (1) dX2_closeValve_26 rfl ?_
    refine cp_X5_rings hX (by omega) (cK_v hv) q_inX5 q_w5 rfl rfl dX2_closeValve_27 ?_
    refine g_vret hX hE dX2_closeValve_30 (by omega) (by omega) ?_
    exact ⟨_, rfl, by simp only [clV, c_17, if_true, if_false]⟩
abbrev rm_X2_moveValve : Room := { frames := 1, cells := 0, slots := 0, locals := 21 }
theorem hd_X2_moveValve : yX2_moveValve.cls = RX2 ∧ yX2_moveValve.cls ≠ "java/lang/invoke/MethodHandle" ∧ yX2_moveValve.cls ≠ "java/lang/invoke/VarHandle" ∧ (parseMethodDescriptor yX2_moveValve.desc).map (fun d => d.parameters.length) = some 2 := by decide +kernel
set_option maxRecDepth 100000 in
set_option maxHeartbeats 4000000 in
theorem k_X2_moveValve {D : va_G} {dT : Nat → ClassId} {ad : Nat → Nat} (I : Nat → Nat → Int32) (v : Nat) (hv : v < 12) (fd : Int32) : KV yX2_moveValve wsX2_moveValve rm_X2_moveValve D dT ad I [.ref (ad 3), .ref (ad (24 + v)), .int fd] (fun J => mvV I v fd = J) := by
  intro l9
  refine cv_of (own := RX2) (cc := cX2_moveValve) (maxL := 3) [(0, .ref (ad 3)), (1, .ref (ad (24 + v))), (2, .int fd)] (by decide) rfl rfl rfl (Nat.le_of_ble_eq_true rfl) ?_
  intro X hX hE hN
  have q_w2 : Cond.fieldLink RX2 163 "Perforatum$Valve" "stands" "Z" ∈ wsX2_moveValve := List.mem_of_getElem? (i := 2) rfl
  have q_inX5 : ∀ w ∈ wsX50, w ∈ wsX2_moveValve := by decide +kernel
  have q_w1 : Cond.fieldLink RX2 160 "Perforatum$Valve" "rowsWithout" "I" ∈ wsX2_moveValve := List.mem_of_getElem? (i := 1) rfl
  have q_w3 : Cond.fieldLink RX2 12 "Perforatum$Player" "settings" "LPerforatum$Settings;" ∈ wsX2_moveValve := List.mem_of_getElem? (i := 3) rfl
  have q_inX2 : ∀ w ∈ wsX20, w ∈ wsX2_moveValve := by decide +kernel
  have q_w4 : Cond.fieldLink RX2 169 "Perforatum$Settings" "gap" "I" ∈ wsX2_moveValve := List.mem_of_getElem? (i := 4) rfl
  have q_inX3 : ∀ w ∈ wsX30, w ∈ wsX2_moveValve := by decide +kernel
  refine g_iload_n hX 2 rfl dX2_moveValve_0 rfl ?_
  refine g_if_eq (tgt := 24) hX dX2_moveValve_1 (by decide) (fun c_1 => ?_) (fun c_1 => ?_)
  · refine g_aload_n hX 1 rfl dX2_moveValve_24 rfl ?_
    refine cg_X5_stands hX (by omega) (cK_v hv) q_inX5 q_w2 dX2_moveValve_25 ?_
    refine g_if_eq (tgt := 60) hX dX2_moveValve_28 (by decide) (fun c_28 => ?_) (fun c_28 => ?_)
    · refine g_vret hX hE dX2_moveValve_60 (by omega) (by omega) ?_
      exact ⟨_, rfl, by simp only [mvV, c_1, c_28, if_true, if_false]⟩
    · refine g_aload_n hX 1 rfl dX2_moveValve_31 rfl ?_
      refine g_dup hX dX2_moveValve_32 rfl ?_
      refine cg_X5_rowsWithout hX (by omega) (cK_v hv) q_inX5 q_w1 dX2_moveValve_33 ?_
      refine g_iconst hX (1) dX2_moveValve_36 rfl ?_
      refine g_iadd hX dX2_moveValve_37 ?_
      refine cp_X5_rowsWithout hX (by omega) (cK_v hv) q_inX5 q_w1 dX2_moveValve_38 ?_
      refine g_aload_n hX 1 rfl dX2_moveValve_41 rfl ?_
      refine cg_X5_rowsWithout hX (by omega) (cK_v hv) q_inX5 q_w1 dX2_moveValve_42 ?_
      refine g_eqi (y := (I (24 + v) 6) + 1) (up2_s) ?_
      refine g_aload_n hX 0 rfl dX2_moveValve_45 rfl ?_
      refine cg_X2_settings hX (by decide) rfl q_inX2 q_w3 rfl dX2_moveValve_46 ?_
      refine cg_X3_gap hX (by decide) rfl q_inX3 q_w4 dX2_moveValve_49 ?_
      refine g_eqi (y := I 15 0) ((up2_n (Or.inl (by omega)))) ?_
      refine g_icmp_le (tgt := 60) hX dX2_moveValve_52 (by decide) (fun c_52 => ?_) (fun c_52 => ?_)
      · refine g_vret hX hE dX2_moveValve_60 (by omega) (by omega) ?_
        exact ⟨_, rfl, by simp only [mvV, c_1, c_28, c_52, if_true, if_false]⟩
      · refine g_aload_n hX 0 rfl dX2_moveValve_55 rfl ?_
        refine g_aload_n hX 1 rfl dX2_moveValve_56 rfl ?_
        refine c_callV_V hX [.ref (ad (24 + v))] 6 (by decide) rfl (by decide) rfl (k_X2_closeValve (up2 I (24 + v) 6 ((I (24 + v) 6) + 1)) v hv) gX2_moveValve_X2_closeValve rfl rfl rfl hd_X2_closeValve ⟨Nat.le_of_ble_eq_true rfl, Nat.le_of_ble_eq_true rfl⟩ ⟨Nat.zero_le _, Nat.zero_le _⟩ rfl (Nat.le_of_ble_eq_true rfl) dX2_moveValve_57 (fun J_57 h_57 => ?_)
        subst h_57
        refine g_vret hX hE dX2_moveValve_60 (by omega) (by omega) ?_
        exact ⟨_, rfl, by simp only [mvV, c_1, c_28, c_52, if_true, if_false]⟩
  · refine g_aload_n hX 1 rfl dX2_moveValve_4 rfl ?_
    refine g_iconst hX (0) dX2_moveValve_5 rfl ?_
    refine cp_X5_rowsWithout hX (by omega) (cK_v hv) q_inX5 q_w1 dX2_moveValve_6 ?_
    refine g_aload_n hX 1 rfl dX2_moveValve_9 rfl ?_
    refine cg_X5_stands hX (by omega) (cK_v hv) q_inX5 q_w2 dX2_moveValve_10 ?_
    refine g_eqi (y := I (24 + v) 4) ((up2_n (Or.inr (by decide)))) ?_
    refine g_if_ne (tgt := 60) hX dX2_moveValve_13 (by decide) (fun c_13 => ?_) (fun c_13 => ?_)
    · refine g_vret hX hE dX2_moveValve_60 (by omega) (by omega) ?_
      exact ⟨_, rfl, by simp only [mvV, c_1, c_13, if_true, if_false]⟩
    · refine g_aload_n hX 0 rfl dX2_moveValve_16 rfl ?_
      refine g_aload_n hX 1 rfl dX2_moveValve_17 rfl ?_
      refine c_callV_V hX [.ref (ad (24 + v))] 6 (by decide) rfl (by decide) rfl (k_X2_openValve (up2 I (24 + v) 6 0) v hv) gX2_moveValve_X2_openValve rfl rfl rfl hd_X2_openValve ⟨Nat.le_of_ble_eq_true rfl, Nat.le_of_ble_eq_true rfl⟩ ⟨Nat.zero_le _, Nat.zero_le _⟩ rfl (Nat.le_of_ble_eq_true rfl) dX2_moveValve_18 (fun J_18 h_18 => ?_)
      subst h_18
      refine g_goto (tgt := 60) hX dX2_moveValve_21 (by decide) ?_
      refine g_vret hX hE dX2_moveValve_60 (by omega) (by omega) ?_
      exact ⟨_, rfl, by simp only [mvV, c_1, c_13, if_true, if_false]⟩
abbrev rm_X2_beginSounding : Room := { frames := 1, cells := 0, slots := 0, locals := 24 }
theorem hd_X2_beginSounding : yX2_beginSounding.cls = RX2 ∧ yX2_beginSounding.cls ≠ "java/lang/invoke/MethodHandle" ∧ yX2_beginSounding.cls ≠ "java/lang/invoke/VarHandle" ∧ (parseMethodDescriptor yX2_beginSounding.desc).map (fun d => d.parameters.length) = some 2 := by decide +kernel
set_option maxRecDepth 100000 in
set_option maxHeartbeats 4000000 in
theorem k_X2_beginSounding {D : va_G} {dT : Nat → ClassId} {ad : Nat → Nat} (I : Nat → Nat → Int32) (v : Nat) (hv : v < 12) (hL : LI I) : KV yX2_beginSounding wsX2_beginSounding rm_X2_beginSounding D dT ad I [.ref (ad 3), .int (nI v), .ref (ad (24 + v))] (fun J => bgS I v (lgn I) = J) := by
  intro l9
  refine cv_of (own := RX2) (cc := cX2_beginSounding) (maxL := 4) [(0, .ref (ad 3)), (1, .int (nI v)), (2, .ref (ad (24 + v)))] (by decide) rfl rfl rfl (Nat.le_of_ble_eq_true rfl) ?_
  intro X hX hE hN
  have q_w1 : Cond.fieldLink RX2 39 "Perforatum$Player" "vacuum" "I" ∈ wsX2_beginSounding := List.mem_of_getElem? (i := 1) rfl
  have q_inX2 : ∀ w ∈ wsX20, w ∈ wsX2_beginSounding := by decide +kernel
  have q_w2 : Cond.fieldLink RX2 42 "Perforatum$Player" "strength" "I" ∈ wsX2_beginSounding := List.mem_of_getElem? (i := 2) rfl
  have q_w3 : Cond.fieldLink RX2 181 "Perforatum$Valve" "speaks" "Z" ∈ wsX2_beginSounding := List.mem_of_getElem? (i := 3) rfl
  have q_inX5 : ∀ w ∈ wsX50, w ∈ wsX2_beginSounding := by decide +kernel
  have q_w4 : Cond.fieldLink RX2 27 "Perforatum$Player" "log" "LPerforatum$SoundingLog;" ∈ wsX2_beginSounding := List.mem_of_getElem? (i := 4) rfl
  have q_w5 : Cond.fieldLink RX2 175 "Perforatum$Valve" "opening" "I" ∈ wsX2_beginSounding := List.mem_of_getElem? (i := 5) rfl
  have q_w6 : Cond.fieldLink RX2 35 "Perforatum$Player" "nextRow" "I" ∈ wsX2_beginSounding := List.mem_of_getElem? (i := 6) rfl
  have q_w7 : Cond.fieldLink RX2 188 "Perforatum$Valve" "kept" "I" ∈ wsX2_beginSounding := List.mem_of_getElem? (i := 7) rfl
  have q_w8 : Cond.fieldLink RX2 51 "Perforatum$Player" "beginnings" "I" ∈ wsX2_beginSounding := List.mem_of_getElem? (i := 8) rfl
  refine g_aload_n hX 0 rfl dX2_beginSounding_0 rfl ?_
  refine cg_X2_vacuum hX (by decide) rfl q_inX2 q_w1 dX2_beginSounding_1 ?_
  refine g_aload_n hX 0 rfl dX2_beginSounding_4 rfl ?_
  refine cg_X2_strength hX (by decide) rfl q_inX2 q_w2 dX2_beginSounding_5 ?_
  refine g_iconst hX (1) dX2_beginSounding_8 rfl ?_
  refine g_iadd hX dX2_beginSounding_9 ?_
  refine g_imul hX dX2_beginSounding_10 ?_
  refine g_bipush hX (70) dX2_beginSounding_11 rfl ?_
  refine g_idiv hX dX2_beginSounding_13 (by decide) ?_
  refine g_istore_n hX [(3, .int (((I 3 5) * ((I 3 6) + 1)) / 70)), (0, .ref (ad 3)), (1, .int (nI v)), (2, .ref (ad (24 + v)))] rfl dX2_beginSounding_14 rfl (by decide) ?_
  refine g_aload_n hX 3 rfl dX2_beginSounding_15 rfl ?_
  refine g_iconst hX (1) dX2_beginSounding_16 rfl ?_
  refine cp_X5_speaks hX (by omega) (cK_v hv) q_inX5 q_w3 rfl rfl dX2_beginSounding_17 ?_
  refine g_aload_n hX 3 rfl dX2_beginSounding_20 rfl ?_
  refine g_aload_n hX 1 rfl dX2_beginSounding_21 rfl ?_
  refine cg_X2_log hX (by decide) rfl q_inX2 q_w4 rfl dX2_beginSounding_22 ?_
  refine g_iload_n hX 2 rfl dX2_beginSounding_25 rfl ?_
  refine g_aload_n hX 3 rfl dX2_beginSounding_26 rfl ?_
  refine cg_X5_opening hX (by omega) (cK_v hv) q_inX5 q_w5 dX2_beginSounding_27 ?_
  refine g_eqi (y := I (24 + v) 5) ((up2_n (Or.inr (by decide)))) ?_
  refine g_aload_n hX 1 rfl dX2_beginSounding_30 rfl ?_
  refine cg_X2_nextRow hX (by decide) rfl q_inX2 q_w6 dX2_beginSounding_31 ?_
  refine g_eqi (y := I 3 4) ((up2_n (Or.inl (by omega)))) ?_
  refine g_iload_n hX 0 rfl dX2_beginSounding_34 rfl ?_
  refine c_callI_V hX [.int (nI v), .int (I (24 + v) 5), .int (I 3 4), .int (((I 3 5) * ((I 3 6) + 1)) / 70)] 8 (by decide) rfl (by decide) rfl (k_X4_keep (up2 I (24 + v) 8 1) (lgn I) (by rw [up2_row (by omega)]; exact hL.at.1) hL.at.2 (nI v) (I (24 + v) 5) (I 3 4) (((I 3 5) * ((I 3 6) + 1)) / 70)) gX2_beginSounding_X4_keep rfl rfl rfl hd_X4_keep ⟨Nat.le_of_ble_eq_true rfl, Nat.le_of_ble_eq_true rfl⟩ ⟨Nat.zero_le _, Nat.zero_le _⟩ rfl (Nat.le_of_ble_eq_true rfl) dX2_beginSounding_35 (fun r_35 J_35 h_35 => ?_)
  obtain ⟨rfl, rfl⟩ := h_35
  refine cp_X5_kept hX (by omega) (cK_v hv) q_inX5 q_w7 dX2_beginSounding_38 ?_
  refine c_I (J := bgS0 I v) rfl ?_
  refine g_aload_n hX 1 rfl dX2_beginSounding_41 rfl ?_
  refine g_dup hX dX2_beginSounding_42 rfl ?_
  refine cg_X2_beginnings hX (by decide) rfl q_inX2 q_w8 dX2_beginSounding_43 ?_
  refine g_eqi (y := (I 3 9)) bgS0_39 ?_
  refine g_iconst hX (1) dX2_beginSounding_46 rfl ?_
  refine g_iadd hX dX2_beginSounding_47 ?_
  refine cp_X2_beginnings hX (by decide) rfl q_inX2 q_w8 dX2_beginSounding_48 ?_
  refine g_vret hX hE dX2_beginSounding_51 (by omega) (by omega) ?_
  exact ⟨_, rfl, rfl⟩
abbrev rm_X2_endHearing : Room := { frames := 2, cells := 0, slots := 0, locals := 43 }
theorem hd_X2_endHearing : yX2_endHearing.cls = RX2 ∧ yX2_endHearing.cls ≠ "java/lang/invoke/MethodHandle" ∧ yX2_endHearing.cls ≠ "java/lang/invoke/VarHandle" ∧ (parseMethodDescriptor yX2_endHearing.desc).map (fun d => d.parameters.length) = some 1 := by decide +kernel
set_option maxRecDepth 100000 in
set_option maxHeartbeats 4000000 in
theorem k_X2_endHearing {D : va_G} {dT : Nat → ClassId} {ad : Nat → Nat} (I : Nat → Nat → Int32) (v : Nat) (hv : v < 12) : KV yX2_endHearing wsX2_endHearing rm_X2_endHearing D dT ad I [.ref (ad 3), .ref (ad (24 + v))] (fun J => enH I v = J) := by
  intro l9
  refine cv_of (own := RX2) (cc := cX2_endHearing) (maxL := 2) [(0, .ref (ad 3)), (1, .ref (ad (24 + v)))] (by decide) rfl rfl rfl (Nat.le_of_ble_eq_true rfl) ?_
  intro X hX hE hN
  have q_w1 : Cond.fieldLink RX2 27 "Perforatum$Player" "log" "LPerforatum$SoundingLog;" ∈ wsX2_endHearing := List.mem_of_getElem? (i := 1) rfl
  have q_inX2 : ∀ w ∈ wsX20, w ∈ wsX2_endHearing := by decide +kernel
  have q_w2 : Cond.fieldLink RX2 188 "Perforatum$Valve" "kept" "I" ∈ wsX2_endHearing := List.mem_of_getElem? (i := 2) rfl
  have q_inX5 : ∀ w ∈ wsX50, w ∈ wsX2_endHearing := by decide +kernel
  have q_w3 : Cond.fieldLink RX2 35 "Perforatum$Player" "nextRow" "I" ∈ wsX2_endHearing := List.mem_of_getElem? (i := 3) rfl
  have q_w4 : Cond.fieldLink RX2 181 "Perforatum$Valve" "speaks" "Z" ∈ wsX2_endHearing := List.mem_of_getElem? (i := 4) rfl
  have q_w5 : Cond.fieldLink RX2 149 "Perforatum$Valve" "rings" "Z" ∈ wsX2_endHearing := List.mem_of_getElem? (i := 5) rfl
  refine g_aload_n hX 0 rfl dX2_endHearing_0 rfl ?_
  refine cg_X2_log hX (by decide) rfl q_inX2 q_w1 rfl dX2_endHearing_1 ?_
  refine g_aload_n hX 1 rfl dX2_endHearing_4 rfl ?_
  refine cg_X5_kept hX (by omega) (cK_v hv) q_inX5 q_w2 dX2_endHearing_5 ?_
  refine g_aload_n hX 0 rfl dX2_endHearing_8 rfl ?_
  refine cg_X2_nextRow hX (by decide) rfl q_inX2 q_w3 dX2_endHearing_9 ?_
  refine g_iconst hX (1) dX2_endHearing_12 rfl ?_
  refine g_isub hX dX2_endHearing_13 ?_
  refine c_callV_V hX [.int (I (24 + v) 10), .int ((I 3 4) - 1)] 8 (by decide) rfl (by decide) rfl (k_X4_finish I (I (24 + v) 10) ((I 3 4) - 1)) gX2_endHearing_X4_finish rfl rfl rfl hd_X4_finish ⟨Nat.le_of_ble_eq_true rfl, Nat.le_of_ble_eq_true rfl⟩ ⟨Nat.zero_le _, Nat.zero_le _⟩ rfl (Nat.le_of_ble_eq_true rfl) dX2_endHearing_14 (fun J_14 h_14 => ?_)
  subst h_14
  refine g_aload_n hX 1 rfl dX2_endHearing_17 rfl ?_
  refine g_iconst hX (-1) dX2_endHearing_18 rfl ?_
  refine cp_X5_kept hX (by omega) (cK_v hv) q_inX5 q_w2 dX2_endHearing_19 ?_
  refine g_aload_n hX 1 rfl dX2_endHearing_22 rfl ?_
  refine g_iconst hX (0) dX2_endHearing_23 rfl ?_
  refine cp_X5_speaks hX (by omega) (cK_v hv) q_inX5 q_w4 rfl rfl dX2_endHearing_24 ?_
  refine g_aload_n hX 1 rfl dX2_endHearing_27 rfl ?_
  refine g_iconst hX (0) dX2_endHearing_28 rfl ?_
  refine cp_X5_rings hX (by omega) (cK_v hv) q_inX5 q_w5 rfl rfl dX2_endHearing_29 ?_
  refine g_vret hX hE dX2_endHearing_32 (by omega) (by omega) ?_
  exact ⟨_, rfl, rfl⟩
abbrev rm_X2_moveValves : Room := { frames := 3, cells := 0, slots := 0, locals := 64 }
theorem hd_X2_moveValves : yX2_moveValves.cls = RX2 ∧ yX2_moveValves.cls ≠ "java/lang/invoke/MethodHandle" ∧ yX2_moveValves.cls ≠ "java/lang/invoke/VarHandle" ∧ (parseMethodDescriptor yX2_moveValves.desc).map (fun d => d.parameters.length) = some 1 := by decide +kernel
set_option maxRecDepth 100000 in
set_option maxHeartbeats 4000000 in
theorem k_X2_moveValves {D : va_G} {dT : Nat → ClassId} {ad : Nat → Nat} (I : Nat → Nat → Int32) (hL : LI I) (fed : Int32) : KV yX2_moveValves wsX2_moveValves rm_X2_moveValves D dT ad I [.ref (ad 3), .int fed] (fun J => mvs I fed 12 = J) := by
  intro l9
  refine cv_of (own := RX2) (cc := cX2_moveValves) (maxL := 5) [(0, .ref (ad 3)), (1, .int fed)] (by decide) rfl rfl rfl (Nat.le_of_ble_eq_true rfl) ?_
  intro X hX hE hN
  have q_w1 : Cond.fieldLink RX2 20 "Perforatum$Player" "valves" "[LPerforatum$Valve;" ∈ wsX2_moveValves := List.mem_of_getElem? (i := 1) rfl
  have q_inX2 : ∀ w ∈ wsX20, w ∈ wsX2_moveValves := by decide +kernel
  have q_w2 : Cond.fieldLink RX2 35 "Perforatum$Player" "nextRow" "I" ∈ wsX2_moveValves := List.mem_of_getElem? (i := 2) rfl
  have q_w6 : Cond.fieldLink RX2 149 "Perforatum$Valve" "rings" "Z" ∈ wsX2_moveValves := List.mem_of_getElem? (i := 6) rfl
  have q_inX5 : ∀ w ∈ wsX50, w ∈ wsX2_moveValves := by decide +kernel
  have q_w7 : Cond.fieldLink RX2 58 "Perforatum$Player" "isPedalDown" "Z" ∈ wsX2_moveValves := List.mem_of_getElem? (i := 7) rfl
  have q_w3 : Cond.fieldLink RX2 39 "Perforatum$Player" "vacuum" "I" ∈ wsX2_moveValves := List.mem_of_getElem? (i := 3) rfl
  have q_w4 : Cond.fieldLink RX2 12 "Perforatum$Player" "settings" "LPerforatum$Settings;" ∈ wsX2_moveValves := List.mem_of_getElem? (i := 4) rfl
  have q_w5 : Cond.fieldLink RX2 146 "Perforatum$Settings" "least" "I" ∈ wsX2_moveValves := List.mem_of_getElem? (i := 5) rfl
  have q_inX3 : ∀ w ∈ wsX30, w ∈ wsX2_moveValves := by decide +kernel
  refine g_iconst hX (0) dX2_moveValves_0 rfl ?_
  refine g_istore_n hX [(2, .int 0), (0, .ref (ad 3)), (1, .int fed)] rfl dX2_moveValves_1 rfl (by decide) ?_
  have lp_2 : ∀ (n9 : Nat) (k : Nat) (J : Nat → Nat → Int32), 12 - k < n9 → k ≤ 12 → J = mvs I fed k → CG X D dT ad J [(2, .int (nI k)), (0, .ref (ad 3)), (1, .int fed)] 0 0 2 [] := by
    intro n9
    induction n9 with
    | zero => intro k J h9; exact absurd h9 (Nat.not_lt_zero _)
    | succ n9 ih9 =>
      intro k J h9 hk hJ
      have ih_2 := ih9
      have hL2 : LI J := by rw [hJ]; exact LI_mvs hL k
      refine g_iload_n hX 0 rfl dX2_moveValves_2 rfl ?_
      refine g_bipush hX (12) dX2_moveValves_3 rfl ?_
      refine g_icmp_ge (tgt := 98) hX dX2_moveValves_5 (by decide) (fun c_5 => ?_) (fun c_5 => ?_)
      · have c_5 : 12 ≤ k := (nI_leI (a := 12) (b := k) (by omega) (by omega)).mp c_5
        refine g_vret hX hE dX2_moveValves_98 (by omega) (by omega) ?_
        exact ⟨_, rfl, by rw [hJ, show k = 12 by omega]⟩
      · have c_5 : ¬ 12 ≤ k := fun h9 => c_5 ((nI_leI (a := 12) (b := k) (by omega) (by omega)).mpr h9)
        refine g_aload_n hX 1 rfl dX2_moveValves_8 rfl ?_
        refine cg_X2_valves hX (by decide) rfl q_inX2 q_w1 rfl dX2_moveValves_9 ?_
        refine g_iload_n hX 0 rfl dX2_moveValves_12 rfl ?_
        refine c_aaldv hX k (by omega) dX2_moveValves_13 ?_
        refine g_astore_n hX [(3, .ref (ad (24 + k))), (2, .int (nI k)), (0, .ref (ad 3)), (1, .int fed)] rfl dX2_moveValves_14 rfl (by decide) ?_
        refine g_aload_n hX 2 rfl dX2_moveValves_15 rfl ?_
        refine g_aload_n hX 0 rfl dX2_moveValves_16 rfl ?_
        refine g_iload_n hX 3 rfl dX2_moveValves_17 rfl ?_
        refine g_iload_n hX 1 rfl dX2_moveValves_18 rfl ?_
        refine c_callI_S hX [.int fed, .int (nI k)] (k_X2_isRead J fed (nI k)) gX2_moveValves_X2_isRead rfl rfl rfl hd_X2_isRead.2 ⟨Nat.le_of_ble_eq_true rfl, Nat.le_of_ble_eq_true rfl⟩ ⟨Nat.zero_le _, Nat.zero_le _⟩ rfl (Nat.le_of_ble_eq_true rfl) dX2_moveValves_19 (fun r_19 J_19 h_19 => ?_)
        obtain ⟨rfl, rfl⟩ := h_19
        refine c_callV_V hX [.ref (ad (24 + k)), .int (ir fed (nI k))] 6 (by decide) rfl (by decide) rfl (k_X2_moveValve J k (by omega) (ir fed (nI k))) gX2_moveValves_X2_moveValve rfl rfl rfl hd_X2_moveValve ⟨Nat.le_of_ble_eq_true rfl, Nat.le_of_ble_eq_true rfl⟩ ⟨Nat.zero_le _, Nat.zero_le _⟩ rfl (Nat.le_of_ble_eq_true rfl) dX2_moveValves_22 (fun J_22 h_22 => ?_)
        subst h_22
        refine g_aload_n hX 0 rfl dX2_moveValves_25 rfl ?_
        refine g_aload_n hX 2 rfl dX2_moveValves_26 rfl ?_
        refine cg_X2_nextRow hX (by decide) rfl q_inX2 q_w2 dX2_moveValves_27 ?_
        refine c_callI_V hX [.int ((mvV J k (ir fed (nI k))) 3 4)] 9 (by omega) (cK_v (by omega)) (by decide) rfl (k_X5_isReady (mvV J k (ir fed (nI k))) k (by omega) ((mvV J k (ir fed (nI k))) 3 4)) gX2_moveValves_X5_isReady rfl rfl rfl hd_X5_isReady ⟨Nat.le_of_ble_eq_true rfl, Nat.le_of_ble_eq_true rfl⟩ ⟨Nat.zero_le _, Nat.zero_le _⟩ rfl (Nat.le_of_ble_eq_true rfl) dX2_moveValves_30 (fun r_30 J_30 h_30 => ?_)
        obtain ⟨rfl, rfl⟩ := h_30
        refine g_if_eq (tgt := 54) hX dX2_moveValves_33 (by decide) (fun c_33 => ?_) (fun c_33 => ?_)
        · refine g_iconst hX (0) dX2_moveValves_54 rfl ?_
          refine g_istore hX [(4, .int 0), (3, .ref (ad (24 + k))), (2, .int (nI k)), (0, .ref (ad 3)), (1, .int fed)] rfl dX2_moveValves_55 (by decide) ?_
          refine g_aload_n hX 1 rfl dX2_moveValves_57 rfl ?_
          refine cg_X5_rings hX (by omega) (cK_v (by omega)) q_inX5 q_w6 dX2_moveValves_58 ?_
          refine g_if_eq (tgt := 81) hX dX2_moveValves_61 (by decide) (fun c_61 => ?_) (fun c_61 => ?_)
          · refine g_iload hX 0 rfl dX2_moveValves_81 ?_
            refine g_if_eq (tgt := 92) hX dX2_moveValves_83 (by decide) (fun c_83 => ?_) (fun c_83 => ?_)
            · refine g_iinc hX (nI (k + 1)) [(2, .int (nI (k + 1))), (4, .int 0), (3, .ref (ad (24 + k))), (0, .ref (ad 3)), (1, .int fed)] (k := 2) rfl (g_inc k) rfl dX2_moveValves_92 (by decide) ?_
              refine g_goto (tgt := 2) hX dX2_moveValves_95 (by decide) ?_
              refine g_lv [0, 3, 4] rfl ?_
              exact ih_2 (k + 1) (mvV J k (ir fed (nI k))) (by omega) (by omega) (by rw [mvs, ← hJ]; simp only [mv3, mv2, anw, c_33, c_61, i10, if_true, if_false])
            · first | exact absurd c_83 (by decide) | exact absurd (by decide) c_83
          · refine g_iload hX 0 rfl dX2_moveValves_64 ?_
            refine g_if_ne (tgt := 76) hX dX2_moveValves_66 (by decide) (fun c_66 => ?_) (fun c_66 => ?_)
            · first | exact absurd c_66 (by decide) | exact absurd (by decide) c_66
            · refine g_aload_n hX 3 rfl dX2_moveValves_69 rfl ?_
              refine cg_X2_isPedalDown hX (by decide) rfl q_inX2 q_w7 dX2_moveValves_70 ?_
              refine g_if_ne (tgt := 81) hX dX2_moveValves_73 (by decide) (fun c_73 => ?_) (fun c_73 => ?_)
              · refine g_iload hX 0 rfl dX2_moveValves_81 ?_
                refine g_if_eq (tgt := 92) hX dX2_moveValves_83 (by decide) (fun c_83 => ?_) (fun c_83 => ?_)
                · refine g_iinc hX (nI (k + 1)) [(2, .int (nI (k + 1))), (4, .int 0), (3, .ref (ad (24 + k))), (0, .ref (ad 3)), (1, .int fed)] (k := 2) rfl (g_inc k) rfl dX2_moveValves_92 (by decide) ?_
                  refine g_goto (tgt := 2) hX dX2_moveValves_95 (by decide) ?_
                  refine g_lv [0, 3, 4] rfl ?_
                  exact ih_2 (k + 1) (mvV J k (ir fed (nI k))) (by omega) (by omega) (by rw [mvs, ← hJ]; simp only [mv3, mv2, anw, c_33, c_61, c_73, i10, if_true, if_false])
                · first | exact absurd c_83 (by decide) | exact absurd (by decide) c_83
              · refine g_aload_n hX 3 rfl dX2_moveValves_76 rfl ?_
                refine g_aload_n hX 1 rfl dX2_moveValves_77 rfl ?_
                refine c_callV_V hX [.ref (ad (24 + k))] 6 (by decide) rfl (by decide) rfl (k_X2_endHearing (mvV J k (ir fed (nI k))) k (by omega)) gX2_moveValves_X2_endHearing rfl rfl rfl hd_X2_endHearing ⟨Nat.le_of_ble_eq_true rfl, Nat.le_of_ble_eq_true rfl⟩ ⟨Nat.zero_le _, Nat.zero_le _⟩ rfl (Nat.le_of_ble_eq_true rfl) dX2_moveValves_78 (fun J_78 h_78 => ?_)
                subst h_78
                refine g_iload hX 0 rfl dX2_moveValves_81 ?_
                refine g_if_eq (tgt := 92) hX dX2_moveValves_83 (by decide) (fun c_83 => ?_) (fun c_83 => ?_)
                · refine g_iinc hX (nI (k + 1)) [(2, .int (nI (k + 1))), (4, .int 0), (3, .ref (ad (24 + k))), (0, .ref (ad 3)), (1, .int fed)] (k := 2) rfl (g_inc k) rfl dX2_moveValves_92 (by decide) ?_
                  refine g_goto (tgt := 2) hX dX2_moveValves_95 (by decide) ?_
                  refine g_lv [0, 3, 4] rfl ?_
                  exact ih_2 (k + 1) (enH (mvV J k (ir fed (nI k))) k) (by omega) (by omega) (by rw [mvs, ← hJ]; simp only [mv3, mv2, anw, c_33, c_61, c_73, i10, if_true, if_false])
                · first | exact absurd c_83 (by decide) | exact absurd (by decide) c_83
        · refine g_aload_n hX 2 rfl dX2_moveValves_36 rfl ?_
          refine cg_X2_vacuum hX (by decide) rfl q_inX2 q_w3 dX2_moveValves_37 ?_
          refine g_aload_n hX 2 rfl dX2_moveValves_40 rfl ?_
          refine cg_X2_settings hX (by decide) rfl q_inX2 q_w4 rfl dX2_moveValves_41 ?_
          refine cg_X3_least hX (by decide) rfl q_inX3 q_w5 dX2_moveValves_44 ?_
          refine g_icmp_lt (tgt := 54) hX dX2_moveValves_47 (by decide) (fun c_47 => ?_) (fun c_47 => ?_)
          · refine g_iconst hX (0) dX2_moveValves_54 rfl ?_
            refine g_istore hX [(4, .int 0), (3, .ref (ad (24 + k))), (2, .int (nI k)), (0, .ref (ad 3)), (1, .int fed)] rfl dX2_moveValves_55 (by decide) ?_
            refine g_aload_n hX 1 rfl dX2_moveValves_57 rfl ?_
            refine cg_X5_rings hX (by omega) (cK_v (by omega)) q_inX5 q_w6 dX2_moveValves_58 ?_
            refine g_if_eq (tgt := 81) hX dX2_moveValves_61 (by decide) (fun c_61 => ?_) (fun c_61 => ?_)
            · refine g_iload hX 0 rfl dX2_moveValves_81 ?_
              refine g_if_eq (tgt := 92) hX dX2_moveValves_83 (by decide) (fun c_83 => ?_) (fun c_83 => ?_)
              · refine g_iinc hX (nI (k + 1)) [(2, .int (nI (k + 1))), (4, .int 0), (3, .ref (ad (24 + k))), (0, .ref (ad 3)), (1, .int fed)] (k := 2) rfl (g_inc k) rfl dX2_moveValves_92 (by decide) ?_
                refine g_goto (tgt := 2) hX dX2_moveValves_95 (by decide) ?_
                refine g_lv [0, 3, 4] rfl ?_
                exact ih_2 (k + 1) (mvV J k (ir fed (nI k))) (by omega) (by omega) (by rw [mvs, ← hJ]; simp only [mv3, mv2, anw, c_33, c_47, c_61, i10, if_true, if_false])
              · first | exact absurd c_83 (by decide) | exact absurd (by decide) c_83
            · refine g_iload hX 0 rfl dX2_moveValves_64 ?_
              refine g_if_ne (tgt := 76) hX dX2_moveValves_66 (by decide) (fun c_66 => ?_) (fun c_66 => ?_)
              · first | exact absurd c_66 (by decide) | exact absurd (by decide) c_66
              · refine g_aload_n hX 3 rfl dX2_moveValves_69 rfl ?_
                refine cg_X2_isPedalDown hX (by decide) rfl q_inX2 q_w7 dX2_moveValves_70 ?_
                refine g_if_ne (tgt := 81) hX dX2_moveValves_73 (by decide) (fun c_73 => ?_) (fun c_73 => ?_)
                · refine g_iload hX 0 rfl dX2_moveValves_81 ?_
                  refine g_if_eq (tgt := 92) hX dX2_moveValves_83 (by decide) (fun c_83 => ?_) (fun c_83 => ?_)
                  · refine g_iinc hX (nI (k + 1)) [(2, .int (nI (k + 1))), (4, .int 0), (3, .ref (ad (24 + k))), (0, .ref (ad 3)), (1, .int fed)] (k := 2) rfl (g_inc k) rfl dX2_moveValves_92 (by decide) ?_
                    refine g_goto (tgt := 2) hX dX2_moveValves_95 (by decide) ?_
                    refine g_lv [0, 3, 4] rfl ?_
                    exact ih_2 (k + 1) (mvV J k (ir fed (nI k))) (by omega) (by omega) (by rw [mvs, ← hJ]; simp only [mv3, mv2, anw, c_33, c_47, c_61, c_73, i10, if_true, if_false])
                  · first | exact absurd c_83 (by decide) | exact absurd (by decide) c_83
                · refine g_aload_n hX 3 rfl dX2_moveValves_76 rfl ?_
                  refine g_aload_n hX 1 rfl dX2_moveValves_77 rfl ?_
                  refine c_callV_V hX [.ref (ad (24 + k))] 6 (by decide) rfl (by decide) rfl (k_X2_endHearing (mvV J k (ir fed (nI k))) k (by omega)) gX2_moveValves_X2_endHearing rfl rfl rfl hd_X2_endHearing ⟨Nat.le_of_ble_eq_true rfl, Nat.le_of_ble_eq_true rfl⟩ ⟨Nat.zero_le _, Nat.zero_le _⟩ rfl (Nat.le_of_ble_eq_true rfl) dX2_moveValves_78 (fun J_78 h_78 => ?_)
                  subst h_78
                  refine g_iload hX 0 rfl dX2_moveValves_81 ?_
                  refine g_if_eq (tgt := 92) hX dX2_moveValves_83 (by decide) (fun c_83 => ?_) (fun c_83 => ?_)
                  · refine g_iinc hX (nI (k + 1)) [(2, .int (nI (k + 1))), (4, .int 0), (3, .ref (ad (24 + k))), (0, .ref (ad 3)), (1, .int fed)] (k := 2) rfl (g_inc k) rfl dX2_moveValves_92 (by decide) ?_
                    refine g_goto (tgt := 2) hX dX2_moveValves_95 (by decide) ?_
                    refine g_lv [0, 3, 4] rfl ?_
                    exact ih_2 (k + 1) (enH (mvV J k (ir fed (nI k))) k) (by omega) (by omega) (by rw [mvs, ← hJ]; simp only [mv3, mv2, anw, c_33, c_47, c_61, c_73, i10, if_true, if_false])
                  · first | exact absurd c_83 (by decide) | exact absurd (by decide) c_83
          · refine g_iconst hX (1) dX2_moveValves_50 rfl ?_
            refine g_goto (tgt := 55) hX dX2_moveValves_51 (by decide) ?_
            refine g_istore hX [(4, .int 1), (3, .ref (ad (24 + k))), (2, .int (nI k)), (0, .ref (ad 3)), (1, .int fed)] rfl dX2_moveValves_55 (by decide) ?_
            refine g_aload_n hX 1 rfl dX2_moveValves_57 rfl ?_
            refine cg_X5_rings hX (by omega) (cK_v (by omega)) q_inX5 q_w6 dX2_moveValves_58 ?_
            refine g_if_eq (tgt := 81) hX dX2_moveValves_61 (by decide) (fun c_61 => ?_) (fun c_61 => ?_)
            · refine g_iload hX 0 rfl dX2_moveValves_81 ?_
              refine g_if_eq (tgt := 92) hX dX2_moveValves_83 (by decide) (fun c_83 => ?_) (fun c_83 => ?_)
              · first | exact absurd c_83 (by decide) | exact absurd (by decide) c_83
              · refine g_aload_n hX 3 rfl dX2_moveValves_86 rfl ?_
                refine g_iload_n hX 2 rfl dX2_moveValves_87 rfl ?_
                refine g_aload_n hX 1 rfl dX2_moveValves_88 rfl ?_
                refine c_callV_V hX [.int (nI k), .ref (ad (24 + k))] 6 (by decide) rfl (by decide) rfl (k_X2_beginSounding (mvV J k (ir fed (nI k))) k (by omega) (hL2.of (mvV_17 6))) gX2_moveValves_X2_beginSounding rfl rfl rfl hd_X2_beginSounding ⟨Nat.le_of_ble_eq_true rfl, Nat.le_of_ble_eq_true rfl⟩ ⟨Nat.zero_le _, Nat.zero_le _⟩ rfl (Nat.le_of_ble_eq_true rfl) dX2_moveValves_89 (fun J_89 h_89 => ?_)
                subst h_89
                refine g_iinc hX (nI (k + 1)) [(2, .int (nI (k + 1))), (4, .int 1), (3, .ref (ad (24 + k))), (0, .ref (ad 3)), (1, .int fed)] (k := 2) rfl (g_inc k) rfl dX2_moveValves_92 (by decide) ?_
                refine g_goto (tgt := 2) hX dX2_moveValves_95 (by decide) ?_
                refine g_lv [0, 3, 4] rfl ?_
                exact ih_2 (k + 1) (bgS (mvV J k (ir fed (nI k))) k (lgn (mvV J k (ir fed (nI k))))) (by omega) (by omega) (by rw [mvs, ← hJ]; simp only [mv3, mv2, anw, c_33, c_47, c_61, i10, if_true, if_false])
            · refine g_iload hX 0 rfl dX2_moveValves_64 ?_
              refine g_if_ne (tgt := 76) hX dX2_moveValves_66 (by decide) (fun c_66 => ?_) (fun c_66 => ?_)
              · refine g_aload_n hX 3 rfl dX2_moveValves_76 rfl ?_
                refine g_aload_n hX 1 rfl dX2_moveValves_77 rfl ?_
                refine c_callV_V hX [.ref (ad (24 + k))] 6 (by decide) rfl (by decide) rfl (k_X2_endHearing (mvV J k (ir fed (nI k))) k (by omega)) gX2_moveValves_X2_endHearing rfl rfl rfl hd_X2_endHearing ⟨Nat.le_of_ble_eq_true rfl, Nat.le_of_ble_eq_true rfl⟩ ⟨Nat.zero_le _, Nat.zero_le _⟩ rfl (Nat.le_of_ble_eq_true rfl) dX2_moveValves_78 (fun J_78 h_78 => ?_)
                subst h_78
                refine g_iload hX 0 rfl dX2_moveValves_81 ?_
                refine g_if_eq (tgt := 92) hX dX2_moveValves_83 (by decide) (fun c_83 => ?_) (fun c_83 => ?_)
                · first | exact absurd c_83 (by decide) | exact absurd (by decide) c_83
                · refine g_aload_n hX 3 rfl dX2_moveValves_86 rfl ?_
                  refine g_iload_n hX 2 rfl dX2_moveValves_87 rfl ?_
                  refine g_aload_n hX 1 rfl dX2_moveValves_88 rfl ?_
                  refine c_callV_V hX [.int (nI k), .ref (ad (24 + k))] 6 (by decide) rfl (by decide) rfl (k_X2_beginSounding (enH (mvV J k (ir fed (nI k))) k) k (by omega) ((hL2.of (mvV_17 6)).of (enH_17 6))) gX2_moveValves_X2_beginSounding rfl rfl rfl hd_X2_beginSounding ⟨Nat.le_of_ble_eq_true rfl, Nat.le_of_ble_eq_true rfl⟩ ⟨Nat.zero_le _, Nat.zero_le _⟩ rfl (Nat.le_of_ble_eq_true rfl) dX2_moveValves_89 (fun J_89 h_89 => ?_)
                  subst h_89
                  refine g_iinc hX (nI (k + 1)) [(2, .int (nI (k + 1))), (4, .int 1), (3, .ref (ad (24 + k))), (0, .ref (ad 3)), (1, .int fed)] (k := 2) rfl (g_inc k) rfl dX2_moveValves_92 (by decide) ?_
                  refine g_goto (tgt := 2) hX dX2_moveValves_95 (by decide) ?_
                  refine g_lv [0, 3, 4] rfl ?_
                  exact ih_2 (k + 1) (bgS (enH (mvV J k (ir fed (nI k))) k) k (lgn (enH (mvV J k (ir fed (nI k))) k))) (by omega) (by omega) (by rw [mvs, ← hJ]; simp only [mv3, mv2, anw, c_33, c_47, c_61, i10, if_true, if_false])
              · first | exact absurd c_66 (by decide) | exact absurd (by decide) c_66
  refine g_lv [0, 1, 2] rfl ?_
  exact lp_2 _ 0 I (Nat.lt_succ_self _) (Nat.zero_le _) rfl
abbrev rm_X2_moveSuction : Room := { frames := 1, cells := 0, slots := 0, locals := 24 }
theorem hd_X2_moveSuction : yX2_moveSuction.cls = RX2 ∧ yX2_moveSuction.cls ≠ "java/lang/invoke/MethodHandle" ∧ yX2_moveSuction.cls ≠ "java/lang/invoke/VarHandle" ∧ (parseMethodDescriptor yX2_moveSuction.desc).map (fun d => d.parameters.length) = some 0 := by decide +kernel
set_option maxRecDepth 100000 in
set_option maxHeartbeats 4000000 in
theorem k_X2_moveSuction {D : va_G} {dT : Nat → ClassId} {ad : Nat → Nat} (I : Nat → Nat → Int32) : KV yX2_moveSuction wsX2_moveSuction rm_X2_moveSuction D dT ad I [.ref (ad 3)] (fun J => mvSu I = J) := by
  intro l9
  refine cv_of (own := RX2) (cc := cX2_moveSuction) (maxL := 3) [(0, .ref (ad 3))] (by decide) rfl rfl rfl (Nat.le_of_ble_eq_true rfl) ?_
  intro X hX hE hN
  have q_w1 : Cond.fieldLink RX2 12 "Perforatum$Player" "settings" "LPerforatum$Settings;" ∈ wsX2_moveSuction := List.mem_of_getElem? (i := 1) rfl
  have q_inX2 : ∀ w ∈ wsX20, w ∈ wsX2_moveSuction := by decide +kernel
  have q_w2 : Cond.fieldLink RX2 195 "Perforatum$Settings" "leak" "I" ∈ wsX2_moveSuction := List.mem_of_getElem? (i := 2) rfl
  have q_inX3 : ∀ w ∈ wsX30, w ∈ wsX2_moveSuction := by decide +kernel
  have q_w6 : Cond.fieldLink RX2 39 "Perforatum$Player" "vacuum" "I" ∈ wsX2_moveSuction := List.mem_of_getElem? (i := 6) rfl
  have q_w7 : Cond.fieldLink RX2 201 "Perforatum$Settings" "pump" "I" ∈ wsX2_moveSuction := List.mem_of_getElem? (i := 7) rfl
  have q_w8 : Cond.methodLink RX2 128 Lib.Math.min.name ∈ wsX2_moveSuction := List.mem_of_getElem? (i := 8) rfl
  have q_w9 : Cond.static Lib.Math.min.name ∈ wsX2_moveSuction := List.mem_of_getElem? (i := 9) rfl
  have q_w10 : Cond.initialized "java/lang/Math" ∈ wsX2_moveSuction := List.mem_of_getElem? (i := 10) rfl
  have q_w11 : Cond.code Lib.Math.min.name Lib.Math.min.code 2 (some .int) ∈ wsX2_moveSuction := List.mem_of_getElem? (i := 11) rfl
  have q_w12 : Cond.methodLink RX2 133 Lib.Math.max.name ∈ wsX2_moveSuction := List.mem_of_getElem? (i := 12) rfl
  have q_w13 : Cond.static Lib.Math.max.name ∈ wsX2_moveSuction := List.mem_of_getElem? (i := 13) rfl
  have q_w14 : Cond.code Lib.Math.max.name Lib.Math.max.code 2 (some .int) ∈ wsX2_moveSuction := List.mem_of_getElem? (i := 14) rfl
  have q_w3 : Cond.fieldLink RX2 20 "Perforatum$Player" "valves" "[LPerforatum$Valve;" ∈ wsX2_moveSuction := List.mem_of_getElem? (i := 3) rfl
  have q_w4 : Cond.fieldLink RX2 163 "Perforatum$Valve" "stands" "Z" ∈ wsX2_moveSuction := List.mem_of_getElem? (i := 4) rfl
  have q_inX5 : ∀ w ∈ wsX50, w ∈ wsX2_moveSuction := by decide +kernel
  have q_w5 : Cond.fieldLink RX2 198 "Perforatum$Valve" "use" "I" ∈ wsX2_moveSuction := List.mem_of_getElem? (i := 5) rfl
  refine g_aload_n hX 0 rfl dX2_moveSuction_0 rfl ?_
  refine cg_X2_settings hX (by decide) rfl q_inX2 q_w1 rfl dX2_moveSuction_1 ?_
  refine cg_X3_leak hX (by decide) rfl q_inX3 q_w2 dX2_moveSuction_4 ?_
  refine g_istore_n hX [(1, .int (I 15 3)), (0, .ref (ad 3))] rfl dX2_moveSuction_7 rfl (by decide) ?_
  refine g_iconst hX (0) dX2_moveSuction_8 rfl ?_
  refine g_istore_n hX [(2, .int 0), (1, .int (I 15 3)), (0, .ref (ad 3))] rfl dX2_moveSuction_9 rfl (by decide) ?_
  have lp_10 : ∀ (n9 : Nat) (k : Nat) (q : Int32), 12 - k < n9 → k ≤ 12 → q = drw I k → CG X D dT ad I [(2, .int (nI k)), (1, .int q), (0, .ref (ad 3))] 0 0 10 [] := by
    intro n9
    induction n9 with
    | zero => intro k q h9; exact absurd h9 (Nat.not_lt_zero _)
    | succ n9 ih9 =>
      intro k q h9 hk hq
      have ih_10 := ih9
      refine g_iload_n hX 0 rfl dX2_moveSuction_10 rfl ?_
      refine g_bipush hX (12) dX2_moveSuction_11 rfl ?_
      refine g_icmp_ge (tgt := 46) hX dX2_moveSuction_13 (by decide) (fun c_13 => ?_) (fun c_13 => ?_)
      · have c_13 : 12 ≤ k := (nI_leI (a := 12) (b := k) (by omega) (by omega)).mp c_13
        refine g_aload_n hX 2 rfl dX2_moveSuction_46 rfl ?_
        refine g_iconst hX (0) dX2_moveSuction_47 rfl ?_
        refine g_sipush hX (1000) dX2_moveSuction_48 rfl ?_
        refine g_aload_n hX 2 rfl dX2_moveSuction_51 rfl ?_
        refine cg_X2_vacuum hX (by decide) rfl q_inX2 q_w6 dX2_moveSuction_52 ?_
        refine g_aload_n hX 2 rfl dX2_moveSuction_55 rfl ?_
        refine cg_X2_settings hX (by decide) rfl q_inX2 q_w1 rfl dX2_moveSuction_56 ?_
        refine cg_X3_pump hX (by decide) rfl q_inX3 q_w7 dX2_moveSuction_59 ?_
        refine g_iadd hX dX2_moveSuction_62 ?_
        refine g_mmin hX q_w8 q_w9 q_w10 q_w11 (Nat.le_of_ble_eq_true rfl) (Nat.le_of_ble_eq_true rfl) (Nat.le_of_ble_eq_true rfl) (Nat.le_of_ble_eq_true rfl) dX2_moveSuction_63 ?_
        refine g_iload_n hX 1 rfl dX2_moveSuction_66 rfl ?_
        refine g_isub hX dX2_moveSuction_67 ?_
        refine g_mmax hX q_w12 q_w13 q_w10 q_w14 (Nat.le_of_ble_eq_true rfl) (Nat.le_of_ble_eq_true rfl) (Nat.le_of_ble_eq_true rfl) (Nat.le_of_ble_eq_true rfl) dX2_moveSuction_68 ?_
        refine cp_X2_vacuum hX (by decide) rfl q_inX2 q_w6 dX2_moveSuction_71 ?_
        refine g_vret hX hE dX2_moveSuction_74 (by omega) (by omega) ?_
        exact ⟨_, rfl, by rw [hq, show k = 12 by omega]; rfl⟩
      · have c_13 : ¬ 12 ≤ k := fun h9 => c_13 ((nI_leI (a := 12) (b := k) (by omega) (by omega)).mpr h9)
        refine g_aload_n hX 2 rfl dX2_moveSuction_16 rfl ?_
        refine cg_X2_valves hX (by decide) rfl q_inX2 q_w3 rfl dX2_moveSuction_17 ?_
        refine g_iload_n hX 0 rfl dX2_moveSuction_20 rfl ?_
        refine c_aaldv hX k (by omega) dX2_moveSuction_21 ?_
        refine cg_X5_stands hX (by omega) (cK_v (by omega)) q_inX5 q_w4 dX2_moveSuction_22 ?_
        refine g_if_eq (tgt := 40) hX dX2_moveSuction_25 (by decide) (fun c_25 => ?_) (fun c_25 => ?_)
        · refine g_iinc hX (nI (k + 1)) [(2, .int (nI (k + 1))), (1, .int q), (0, .ref (ad 3))] (k := 0) rfl (g_inc k) rfl dX2_moveSuction_40 (by decide) ?_
          refine g_goto (tgt := 10) hX dX2_moveSuction_43 (by decide) ?_
          refine g_lv [0, 1, 2] rfl ?_
          exact ih_10 (k + 1) q (by omega) (by omega) (by rw [hq, drw]; simp only [c_25, if_true, if_false])
        · refine g_iload_n hX 1 rfl dX2_moveSuction_28 rfl ?_
          refine g_aload_n hX 2 rfl dX2_moveSuction_29 rfl ?_
          refine cg_X2_valves hX (by decide) rfl q_inX2 q_w3 rfl dX2_moveSuction_30 ?_
          refine g_iload_n hX 0 rfl dX2_moveSuction_33 rfl ?_
          refine c_aaldv hX k (by omega) dX2_moveSuction_34 ?_
          refine cg_X5_use hX (by omega) (cK_v (by omega)) q_inX5 q_w5 dX2_moveSuction_35 ?_
          refine g_iadd hX dX2_moveSuction_38 ?_
          refine g_istore_n hX [(1, .int (q + (I (24 + k) 2))), (2, .int (nI k)), (0, .ref (ad 3))] rfl dX2_moveSuction_39 rfl (by decide) ?_
          refine g_iinc hX (nI (k + 1)) [(2, .int (nI (k + 1))), (1, .int (q + (I (24 + k) 2))), (0, .ref (ad 3))] (k := 1) rfl (g_inc k) rfl dX2_moveSuction_40 (by decide) ?_
          refine g_goto (tgt := 10) hX dX2_moveSuction_43 (by decide) ?_
          refine g_lv [0, 1, 2] rfl ?_
          exact ih_10 (k + 1) (q + (I (24 + k) 2)) (by omega) (by omega) (by rw [hq, drw]; simp only [c_25, if_true, if_false])
  refine g_lv [0, 1, 2] rfl ?_
  exact lp_10 _ 0 (I 15 3) (Nat.lt_succ_self _) (Nat.zero_le _) rfl
abbrev rm_X2_endPlaying : Room := { frames := 3, cells := 0, slots := 0, locals := 64 }
theorem hd_X2_endPlaying : yX2_endPlaying.cls = RX2 ∧ yX2_endPlaying.cls ≠ "java/lang/invoke/MethodHandle" ∧ yX2_endPlaying.cls ≠ "java/lang/invoke/VarHandle" ∧ (parseMethodDescriptor yX2_endPlaying.desc).map (fun d => d.parameters.length) = some 0 := by decide +kernel
set_option maxRecDepth 100000 in
set_option maxHeartbeats 4000000 in
theorem k_X2_endPlaying {D : va_G} {dT : Nat → ClassId} {ad : Nat → Nat} (I : Nat → Nat → Int32) : KV yX2_endPlaying wsX2_endPlaying rm_X2_endPlaying D dT ad I [.ref (ad 3)] (fun J => setP (epl I 12) (-1) = J) := by
  intro l9
  refine cv_of (own := RX2) (cc := cX2_endPlaying) (maxL := 2) [(0, .ref (ad 3))] (by decide) rfl rfl rfl (Nat.le_of_ble_eq_true rfl) ?_
  intro X hX hE hN
  have q_w3 : Cond.fieldLink RX2 31 "Perforatum$Player" "paper" "LPerforatum$Paper;" ∈ wsX2_endPlaying := List.mem_of_getElem? (i := 3) rfl
  have q_inX2 : ∀ w ∈ wsX20, w ∈ wsX2_endPlaying := by decide +kernel
  have q_w1 : Cond.fieldLink RX2 20 "Perforatum$Player" "valves" "[LPerforatum$Valve;" ∈ wsX2_endPlaying := List.mem_of_getElem? (i := 1) rfl
  have q_w2 : Cond.fieldLink RX2 163 "Perforatum$Valve" "stands" "Z" ∈ wsX2_endPlaying := List.mem_of_getElem? (i := 2) rfl
  have q_inX5 : ∀ w ∈ wsX50, w ∈ wsX2_endPlaying := by decide +kernel
  refine g_iconst hX (0) dX2_endPlaying_0 rfl ?_
  refine g_istore_n hX [(1, .int 0), (0, .ref (ad 3))] rfl dX2_endPlaying_1 rfl (by decide) ?_
  have lp_2 : ∀ (n9 : Nat) (k : Nat) (J : Nat → Nat → Int32), 12 - k < n9 → k ≤ 12 → J = epl I k → CG X D dT ad J [(1, .int (nI k)), (0, .ref (ad 3))] 0 0 2 [] := by
    intro n9
    induction n9 with
    | zero => intro k J h9; exact absurd h9 (Nat.not_lt_zero _)
    | succ n9 ih9 =>
      intro k J h9 hk hJ
      have ih_2 := ih9
      refine g_iload_n hX 0 rfl dX2_endPlaying_2 rfl ?_
      refine g_bipush hX (12) dX2_endPlaying_3 rfl ?_
      refine g_icmp_ge (tgt := 34) hX dX2_endPlaying_5 (by decide) (fun c_5 => ?_) (fun c_5 => ?_)
      · have c_5 : 12 ≤ k := (nI_leI (a := 12) (b := k) (by omega) (by omega)).mp c_5
        refine g_aload_n hX 1 rfl dX2_endPlaying_34 rfl ?_
        refine g_null hX dX2_endPlaying_35 ?_
        refine cp_paperN hX q_inX2 q_w3 dX2_endPlaying_36 ?_
        refine g_vret hX hE dX2_endPlaying_39 (by omega) (by omega) ?_
        exact ⟨_, rfl, by rw [hJ, show k = 12 by omega]⟩
      · have c_5 : ¬ 12 ≤ k := fun h9 => c_5 ((nI_leI (a := 12) (b := k) (by omega) (by omega)).mpr h9)
        refine g_aload_n hX 1 rfl dX2_endPlaying_8 rfl ?_
        refine g_aload_n hX 1 rfl dX2_endPlaying_9 rfl ?_
        refine cg_X2_valves hX (by decide) rfl q_inX2 q_w1 rfl dX2_endPlaying_10 ?_
        refine g_iload_n hX 0 rfl dX2_endPlaying_13 rfl ?_
        refine c_aaldv hX k (by omega) dX2_endPlaying_14 ?_
        refine c_callV_V hX [.ref (ad (24 + k))] 6 (by decide) rfl (by decide) rfl (k_X2_endHearing J k (by omega)) gX2_endPlaying_X2_endHearing rfl rfl rfl hd_X2_endHearing ⟨Nat.le_of_ble_eq_true rfl, Nat.le_of_ble_eq_true rfl⟩ ⟨Nat.zero_le _, Nat.zero_le _⟩ rfl (Nat.le_of_ble_eq_true rfl) dX2_endPlaying_15 (fun J_15 h_15 => ?_)
        subst h_15
        refine g_aload_n hX 1 rfl dX2_endPlaying_18 rfl ?_
        refine cg_X2_valves hX (by decide) rfl q_inX2 q_w1 rfl dX2_endPlaying_19 ?_
        refine g_iload_n hX 0 rfl dX2_endPlaying_22 rfl ?_
        refine c_aaldv hX k (by omega) dX2_endPlaying_23 ?_
        refine g_iconst hX (0) dX2_endPlaying_24 rfl ?_
        refine cp_X5_stands hX (by omega) (cK_v (by omega)) q_inX5 q_w2 rfl rfl dX2_endPlaying_25 ?_
        refine g_iinc hX (nI (k + 1)) [(1, .int (nI (k + 1))), (0, .ref (ad 3))] (k := 0) rfl (g_inc k) rfl dX2_endPlaying_28 (by decide) ?_
        refine g_goto (tgt := 2) hX dX2_endPlaying_31 (by decide) ?_
        refine g_lv [0, 1] rfl ?_
        exact ih_2 (k + 1) (up2 (enH J k) (24 + k) 4 0) (by omega) (by omega) (by rw [hJ]; rfl)
  refine g_lv [0, 1] rfl ?_
  exact lp_2 _ 0 I (Nat.lt_succ_self _) (Nat.zero_le _) rfl
abbrev rm_X2_playRow : Room := { frames := 4, cells := 0, slots := 0, locals := 88 }
theorem hd_X2_playRow : yX2_playRow.cls = RX2 ∧ yX2_playRow.cls ≠ "java/lang/invoke/MethodHandle" ∧ yX2_playRow.cls ≠ "java/lang/invoke/VarHandle" ∧ (parseMethodDescriptor yX2_playRow.desc).map (fun d => d.parameters.length) = some 1 := by decide +kernel
set_option maxRecDepth 100000 in
set_option maxHeartbeats 4000000 in
theorem k_X2_playRow {D : va_G} {dT : Nat → ClassId} {ad : Nat → Nat} (I : Nat → Nat → Int32) (i : Nat) (hi : i < 4) (hL : LI I) (hb : I 3 10 = 0 ∨ I 3 10 = 1) : KV yX2_playRow wsX2_playRow rm_X2_playRow D dT ad I [.ref (ad 3), .ref (ad (4 + i))] (fun J => plr I i = J) := by
  intro l9
  refine cv_of (own := RX2) (cc := cX2_playRow) (maxL := 3) [(0, .ref (ad 3)), (1, .ref (ad (4 + i)))] (by decide) rfl rfl rfl (Nat.le_of_ble_eq_true rfl) ?_
  intro X hX hE hN
  have q_w1 : Cond.fieldLink RX2 58 "Perforatum$Player" "isPedalDown" "Z" ∈ wsX2_playRow := List.mem_of_getElem? (i := 1) rfl
  have q_inX2 : ∀ w ∈ wsX20, w ∈ wsX2_playRow := by decide +kernel
  have q_w2 : Cond.fieldLink RX2 61 "Perforatum$Player" "readAhead" "I" ∈ wsX2_playRow := List.mem_of_getElem? (i := 2) rfl
  have q_w3 : Cond.fieldLink RX2 35 "Perforatum$Player" "nextRow" "I" ∈ wsX2_playRow := List.mem_of_getElem? (i := 3) rfl
  refine g_aload_n hX 0 rfl dX2_playRow_0 rfl ?_
  refine g_aload_n hX 1 rfl dX2_playRow_1 rfl ?_
  refine c_callI_V hX [.ref (ad (4 + i))] 6 (by decide) rfl (by decide) rfl (k_X2_readHoles I i hi) gX2_playRow_X2_readHoles rfl rfl rfl hd_X2_readHoles ⟨Nat.le_of_ble_eq_true rfl, Nat.le_of_ble_eq_true rfl⟩ ⟨Nat.zero_le _, Nat.zero_le _⟩ rfl (Nat.le_of_ble_eq_true rfl) dX2_playRow_2 (fun r_2 J_2 h_2 => ?_)
  obtain ⟨rfl, rfl⟩ := h_2
  refine g_istore_n hX [(2, .int (rh I i)), (0, .ref (ad 3)), (1, .ref (ad (4 + i)))] rfl dX2_playRow_5 rfl (by decide) ?_
  refine g_aload_n hX 1 rfl dX2_playRow_6 rfl ?_
  refine g_iload_n hX 0 rfl dX2_playRow_7 rfl ?_
  refine c_callV_V hX [.int (rh I i)] 6 (by decide) rfl (by decide) rfl (k_X2_makeLevel I hb (rh I i)) gX2_playRow_X2_makeLevel rfl rfl rfl hd_X2_makeLevel ⟨Nat.le_of_ble_eq_true rfl, Nat.le_of_ble_eq_true rfl⟩ ⟨Nat.zero_le _, Nat.zero_le _⟩ rfl (Nat.le_of_ble_eq_true rfl) dX2_playRow_8 (fun J_8 h_8 => ?_)
  subst h_8
  refine g_aload_n hX 1 rfl dX2_playRow_11 rfl ?_
  refine g_iload_n hX 0 rfl dX2_playRow_12 rfl ?_
  refine g_bipush hX (12) dX2_playRow_13 rfl ?_
  refine c_callI_S hX [.int (rh I i), .int 12] (k_X2_isRead (mkl I (rh I i)) (rh I i) 12) gX2_playRow_X2_isRead rfl rfl rfl hd_X2_isRead.2 ⟨Nat.le_of_ble_eq_true rfl, Nat.le_of_ble_eq_true rfl⟩ ⟨Nat.zero_le _, Nat.zero_le _⟩ rfl (Nat.le_of_ble_eq_true rfl) dX2_playRow_15 (fun r_15 J_15 h_15 => ?_)
  obtain ⟨rfl, rfl⟩ := h_15
  refine cp_X2_isPedalDown hX (by decide) rfl q_inX2 q_w1 (nz_ir _ _) (fz_ir _ _) dX2_playRow_18 ?_
  refine g_aload_n hX 1 rfl dX2_playRow_21 rfl ?_
  refine g_aload_n hX 1 rfl dX2_playRow_22 rfl ?_
  refine g_iload_n hX 0 rfl dX2_playRow_23 rfl ?_
  refine c_callI_V hX [.int (rh I i)] 6 (by decide) rfl (by decide) rfl (k_X2_findFed (up2 (mkl I (rh I i)) 3 11 (ir (rh I i) 12)) (rh I i)) gX2_playRow_X2_findFed rfl rfl rfl hd_X2_findFed ⟨Nat.le_of_ble_eq_true rfl, Nat.le_of_ble_eq_true rfl⟩ ⟨Nat.zero_le _, Nat.zero_le _⟩ rfl (Nat.le_of_ble_eq_true rfl) dX2_playRow_24 (fun r_24 J_24 h_24 => ?_)
  obtain ⟨rfl, rfl⟩ := h_24
  refine c_callV_V hX [.int (ffd (up2 (mkl I (rh I i)) 3 11 (ir (rh I i) 12)) (rh I i) 12)] 6 (by decide) rfl (by decide) rfl (k_X2_moveValves (up2 (mkl I (rh I i)) 3 11 (ir (rh I i) 12)) (hL.of ((congrFun (up2_row (by decide)) 6).trans (congrFun (mkl_n (by decide)) 6))) (ffd (up2 (mkl I (rh I i)) 3 11 (ir (rh I i) 12)) (rh I i) 12)) gX2_playRow_X2_moveValves rfl rfl rfl hd_X2_moveValves ⟨Nat.le_of_ble_eq_true rfl, Nat.le_of_ble_eq_true rfl⟩ ⟨Nat.zero_le _, Nat.zero_le _⟩ rfl (Nat.le_of_ble_eq_true rfl) dX2_playRow_27 (fun J_27 h_27 => ?_)
  subst h_27
  refine g_aload_n hX 1 rfl dX2_playRow_30 rfl ?_
  refine c_callV_V hX [] 6 (by decide) rfl (by decide) rfl (k_X2_moveSuction (mvs (up2 (mkl I (rh I i)) 3 11 (ir (rh I i) 12)) (ffd (up2 (mkl I (rh I i)) 3 11 (ir (rh I i) 12)) (rh I i) 12) 12) ) gX2_playRow_X2_moveSuction rfl rfl rfl hd_X2_moveSuction ⟨Nat.le_of_ble_eq_true rfl, Nat.le_of_ble_eq_true rfl⟩ ⟨Nat.zero_le _, Nat.zero_le _⟩ rfl (Nat.le_of_ble_eq_true rfl) dX2_playRow_31 (fun J_31 h_31 => ?_)
  subst h_31
  refine g_aload_n hX 1 rfl dX2_playRow_34 rfl ?_
  refine g_iload_n hX 0 rfl dX2_playRow_35 rfl ?_
  refine cp_X2_readAhead hX (by decide) rfl q_inX2 q_w2 dX2_playRow_36 ?_
  refine g_aload_n hX 1 rfl dX2_playRow_39 rfl ?_
  refine g_dup hX dX2_playRow_40 rfl ?_
  refine cg_X2_nextRow hX (by decide) rfl q_inX2 q_w3 dX2_playRow_41 ?_
  refine g_eqi (y := (mvSu (mvs (up2 (mkl I (rh I i)) 3 11 (ir (rh I i) 12)) (ffd (up2 (mkl I (rh I i)) 3 11 (ir (rh I i) 12)) (rh I i) 12) 12)) 3 4) ((up2_n (Or.inr (by decide)))) ?_
  refine g_iconst hX (1) dX2_playRow_44 rfl ?_
  refine g_iadd hX dX2_playRow_45 ?_
  refine cp_X2_nextRow hX (by decide) rfl q_inX2 q_w3 dX2_playRow_46 ?_
  refine g_vret hX hE dX2_playRow_49 (by omega) (by omega) ?_
  exact ⟨_, rfl, rfl⟩

