abbrev rm_X6_hasPaper : Room := { frames := 0, cells := 0, slots := 0, locals := 0 }
theorem hd_X6_hasPaper : yX6_hasPaper.cls = RX6 ∧ yX6_hasPaper.cls ≠ "java/lang/invoke/MethodHandle" ∧ yX6_hasPaper.cls ≠ "java/lang/invoke/VarHandle" ∧ (parseMethodDescriptor yX6_hasPaper.desc).map (fun d => d.parameters.length) = some 1 := by decide +kernel
set_option maxRecDepth 100000 in
set_option maxHeartbeats 4000000 in
theorem k_X6_hasPaper {D : va_G} {dT : Nat → ClassId} {ad : Nat → Nat} (I : Nat → Nat → Int32) (r : Int32) : KI yX6_hasPaper wsX6_hasPaper rm_X6_hasPaper D dT ad I [.ref (ad 0), .int r] (fun q J => I = J ∧ rp I r = q) := by
  intro l9
  refine ci_of (own := RX6) (cc := cX6_hasPaper) (maxL := 2) (some .boolean) [(0, .ref (ad 0)), (1, .int r)] (by decide) rfl rfl rfl (Nat.le_of_ble_eq_true rfl) ?_
  intro X hX hE hN
  have q_w1 : Cond.fieldLink RX6 44 "Perforatum" "paperCount" "I" ∈ wsX6_hasPaper := List.mem_of_getElem? (i := 1) rfl
  have q_inX6 : ∀ w ∈ wsX60, w ∈ wsX6_hasPaper := by decide +kernel
  refine g_iload_n hX 1 rfl dX6_hasPaper_0 rfl ?_
  refine g_if_lt (tgt := 21) hX dX6_hasPaper_1 (by decide) (fun c_1 => ?_) (fun c_1 => ?_)
  · refine g_iconst hX (0) dX6_hasPaper_21 rfl ?_
    refine g_zret hX rfl hE dX6_hasPaper_22 (by omega) (by omega) ?_
    exact ⟨_, rfl, rfl, by simp only [rp, c_1, if_true, if_false]⟩
  · refine g_iload_n hX 1 rfl dX6_hasPaper_4 rfl ?_
    refine g_aload_n hX 0 rfl dX6_hasPaper_5 rfl ?_
    refine cg_X6_paperCount hX (by decide) rfl q_inX6 q_w1 dX6_hasPaper_6 ?_
    refine g_icmp_ge (tgt := 21) hX dX6_hasPaper_9 (by decide) (fun c_9 => ?_) (fun c_9 => ?_)
    · refine g_iconst hX (0) dX6_hasPaper_21 rfl ?_
      refine g_zret hX rfl hE dX6_hasPaper_22 (by omega) (by omega) ?_
      exact ⟨_, rfl, rfl, by simp only [rp, c_1, c_9, if_true, if_false]⟩
    · refine g_iload_n hX 1 rfl dX6_hasPaper_12 rfl ?_
      refine g_iconst hX (4) dX6_hasPaper_13 rfl ?_
      refine g_icmp_ge (tgt := 21) hX dX6_hasPaper_14 (by decide) (fun c_14 => ?_) (fun c_14 => ?_)
      · refine g_iconst hX (0) dX6_hasPaper_21 rfl ?_
        refine g_zret hX rfl hE dX6_hasPaper_22 (by omega) (by omega) ?_
        exact ⟨_, rfl, rfl, by simp only [rp, c_1, c_14, c_9, if_true, if_false]⟩
      · refine g_iconst hX (1) dX6_hasPaper_17 rfl ?_
        refine g_goto (tgt := 22) hX dX6_hasPaper_18 (by decide) ?_
        refine g_zret hX rfl hE dX6_hasPaper_22 (by omega) (by omega) ?_
        exact ⟨_, rfl, rfl, by simp only [rp, c_1, c_14, c_9, if_true, if_false]⟩
abbrev rm_X6_addRoll : Room := { frames := 0, cells := 0, slots := 0, locals := 0 }
theorem hd_X6_addRoll : yX6_addRoll.cls = RX6 ∧ yX6_addRoll.cls ≠ "java/lang/invoke/MethodHandle" ∧ yX6_addRoll.cls ≠ "java/lang/invoke/VarHandle" ∧ (parseMethodDescriptor yX6_addRoll.desc).map (fun d => d.parameters.length) = some 0 := by decide +kernel
set_option maxRecDepth 100000 in
set_option maxHeartbeats 4000000 in
theorem k_X6_addRoll {D : va_G} {dT : Nat → ClassId} {ad : Nat → Nat} (I : Nat → Nat → Int32) : KI yX6_addRoll wsX6_addRoll rm_X6_addRoll D dT ad I [.ref (ad 0)] (fun q J => up2 I 0 6 (I 0 6 + 1) = J ∧ I 0 6 + 1 - 1 = q) := by
  intro l9
  refine ci_of (own := RX6) (cc := cX6_addRoll) (maxL := 1) (some .int) [(0, .ref (ad 0))] (by decide) rfl rfl rfl (Nat.le_of_ble_eq_true rfl) ?_
  intro X hX hE hN
  have q_w1 : Cond.fieldLink RX6 44 "Perforatum" "paperCount" "I" ∈ wsX6_addRoll := List.mem_of_getElem? (i := 1) rfl
  have q_inX6 : ∀ w ∈ wsX60, w ∈ wsX6_addRoll := by decide +kernel
  refine g_aload_n hX 0 rfl dX6_addRoll_0 rfl ?_
  refine g_dup hX dX6_addRoll_1 rfl ?_
  refine cg_X6_paperCount hX (by decide) rfl q_inX6 q_w1 dX6_addRoll_2 ?_
  refine g_iconst hX (1) dX6_addRoll_5 rfl ?_
  refine g_iadd hX dX6_addRoll_6 ?_
  refine cp_X6_paperCount hX (by decide) rfl q_inX6 q_w1 dX6_addRoll_7 ?_
  refine g_aload_n hX 0 rfl dX6_addRoll_10 rfl ?_
  refine cg_X6_paperCount hX (by decide) rfl q_inX6 q_w1 dX6_addRoll_11 ?_
  refine g_eqi (y := (I 0 6) + 1) (up2_s) ?_
  refine g_iconst hX (1) dX6_addRoll_14 rfl ?_
  refine g_isub hX dX6_addRoll_15 ?_
  refine g_iret hX hE dX6_addRoll_16 (by omega) (by omega) ?_
  exact ⟨_, rfl, rfl, rfl⟩
abbrev rm_X6_forgetArrangementOf : Room := { frames := 0, cells := 0, slots := 0, locals := 0 }
theorem hd_X6_forgetArrangementOf : yX6_forgetArrangementOf.cls = RX6 ∧ yX6_forgetArrangementOf.cls ≠ "java/lang/invoke/MethodHandle" ∧ yX6_forgetArrangementOf.cls ≠ "java/lang/invoke/VarHandle" ∧ (parseMethodDescriptor yX6_forgetArrangementOf.desc).map (fun d => d.parameters.length) = some 1 := by decide +kernel
set_option maxRecDepth 100000 in
set_option maxHeartbeats 4000000 in
theorem k_X6_forgetArrangementOf {D : va_G} {dT : Nat → ClassId} {ad : Nat → Nat} (I : Nat → Nat → Int32) (r : Int32) : KV yX6_forgetArrangementOf wsX6_forgetArrangementOf rm_X6_forgetArrangementOf D dT ad I [.ref (ad 0), .int r] (fun J => fga I r = J) := by
  intro l9
  refine cv_of (own := RX6) (cc := cX6_forgetArrangementOf) (maxL := 2) [(0, .ref (ad 0)), (1, .int r)] (by decide) rfl rfl rfl (Nat.le_of_ble_eq_true rfl) ?_
  intro X hX hE hN
  have q_w1 : Cond.fieldLink RX6 48 "Perforatum" "arrangedRoll" "I" ∈ wsX6_forgetArrangementOf := List.mem_of_getElem? (i := 1) rfl
  have q_inX6 : ∀ w ∈ wsX60, w ∈ wsX6_forgetArrangementOf := by decide +kernel
  refine g_aload_n hX 0 rfl dX6_forgetArrangementOf_0 rfl ?_
  refine cg_X6_arrangedRoll hX (by decide) rfl q_inX6 q_w1 dX6_forgetArrangementOf_1 ?_
  refine g_iload_n hX 1 rfl dX6_forgetArrangementOf_4 rfl ?_
  refine g_icmp_ne (tgt := 13) hX dX6_forgetArrangementOf_5 (by decide) (fun c_5 => ?_) (fun c_5 => ?_)
  · refine g_vret hX hE dX6_forgetArrangementOf_13 (by omega) (by omega) ?_
    exact ⟨_, rfl, by rw [fga, if_neg c_5]⟩
  · refine g_aload_n hX 0 rfl dX6_forgetArrangementOf_8 rfl ?_
    refine g_iconst hX (-1) dX6_forgetArrangementOf_9 rfl ?_
    refine cp_X6_arrangedRoll hX (by decide) rfl q_inX6 q_w1 dX6_forgetArrangementOf_10 ?_
    refine g_vret hX hE dX6_forgetArrangementOf_13 (by omega) (by omega) ?_
    exact ⟨_, rfl, by rw [fga, if_pos c_5]⟩
abbrev rm_X6_isArrangementKept : Room := { frames := 4, cells := 0, slots := 0, locals := 89 }
theorem hd_X6_isArrangementKept : yX6_isArrangementKept.cls = RX6 ∧ yX6_isArrangementKept.cls ≠ "java/lang/invoke/MethodHandle" ∧ yX6_isArrangementKept.cls ≠ "java/lang/invoke/VarHandle" ∧ (parseMethodDescriptor yX6_isArrangementKept.desc).map (fun d => d.parameters.length) = some 0 := by decide +kernel
set_option maxRecDepth 100000 in
set_option maxHeartbeats 4000000 in
theorem k_X6_isArrangementKept {D : va_G} {dT : Nat → ClassId} {ad : Nat → Nat} (I : Nat → Nat → Int32) (c : Nat) (hc : I 2 3 = nI c) (h40 : c ≤ 40) (fa : Nat → Nat) (hfa : ∀ n, n < c → I 12 n = nI (fa n) ∧ fa n < 200) : KI yX6_isArrangementKept wsX6_isArrangementKept rm_X6_isArrangementKept D dT ad I [.ref (ad 0)] (fun q J => I = J ∧ ark I c fa = q) := by
  intro l9
  refine ci_of (own := RX6) (cc := cX6_isArrangementKept) (maxL := 1) (some .boolean) [(0, .ref (ad 0))] (by decide) rfl rfl rfl (Nat.le_of_ble_eq_true rfl) ?_
  intro X hX hE hN
  have q_w1 : Cond.fieldLink RX6 48 "Perforatum" "arrangedRoll" "I" ∈ wsX6_isArrangementKept := List.mem_of_getElem? (i := 1) rfl
  have q_inX6 : ∀ w ∈ wsX60, w ∈ wsX6_isArrangementKept := by decide +kernel
  have q_w2 : Cond.fieldLink RX6 18 "Perforatum" "music" "LPerforatum$Music;" ∈ wsX6_isArrangementKept := List.mem_of_getElem? (i := 2) rfl
  have q_w3 : Cond.fieldLink RX6 11 "Perforatum" "papers" "[LPerforatum$Paper;" ∈ wsX6_isArrangementKept := List.mem_of_getElem? (i := 3) rfl
  refine g_aload_n hX 0 rfl dX6_isArrangementKept_0 rfl ?_
  refine g_aload_n hX 0 rfl dX6_isArrangementKept_1 rfl ?_
  refine cg_X6_arrangedRoll hX (by decide) rfl q_inX6 q_w1 dX6_isArrangementKept_2 ?_
  refine c_callI_V hX [.int (I 0 7)] 10 (by decide) rfl (by decide) rfl (k_X6_hasPaper I (I 0 7)) gX6_isArrangementKept_X6_hasPaper rfl rfl rfl hd_X6_hasPaper ⟨Nat.le_of_ble_eq_true rfl, Nat.le_of_ble_eq_true rfl⟩ ⟨Nat.zero_le _, Nat.zero_le _⟩ rfl (Nat.le_of_ble_eq_true rfl) dX6_isArrangementKept_5 (fun r_5 J_5 h_5 => ?_)
  obtain ⟨rfl, rfl⟩ := h_5
  refine g_if_eq (tgt := 30) hX dX6_isArrangementKept_8 (by decide) (fun c_8 => ?_) (fun c_8 => ?_)
  · refine g_iconst hX (1) dX6_isArrangementKept_30 rfl ?_
    refine g_goto (tgt := 35) hX dX6_isArrangementKept_31 (by decide) ?_
    refine g_zret hX rfl hE dX6_isArrangementKept_35 (by omega) (by omega) ?_
    exact ⟨_, rfl, rfl, by simp only [ark, c_8, if_true, if_false]⟩
  · refine g_aload_n hX 0 rfl dX6_isArrangementKept_11 rfl ?_
    refine cg_X6_music hX (by decide) rfl q_inX6 q_w2 rfl dX6_isArrangementKept_12 ?_
    refine g_aload_n hX 0 rfl dX6_isArrangementKept_15 rfl ?_
    refine cg_X6_papers hX (by decide) rfl q_inX6 q_w3 rfl dX6_isArrangementKept_16 ?_
    refine g_aload_n hX 0 rfl dX6_isArrangementKept_19 rfl ?_
    refine cg_X6_arrangedRoll hX (by decide) rfl q_inX6 q_w1 dX6_isArrangementKept_20 ?_
    refine g_eqi (y := nI (I 0 7).toNatClampNeg) (rp_ix c_8).1 ?_
    refine c_aaldp hX ((I 0 7).toNatClampNeg) (rp_ix c_8).2 dX6_isArrangementKept_23 ?_
    refine c_callI_V hX [.ref (ad (4 + (I 0 7).toNatClampNeg))] 4 (by decide) rfl (by decide) rfl (k_X0_isScannedFrom I (I 0 7).toNatClampNeg (rp_ix c_8).2 c hc h40 fa hfa) gX6_isArrangementKept_X0_isScannedFrom rfl rfl rfl hd_X0_isScannedFrom ⟨Nat.le_of_ble_eq_true rfl, Nat.le_of_ble_eq_true rfl⟩ ⟨Nat.zero_le _, Nat.zero_le _⟩ rfl (Nat.le_of_ble_eq_true rfl) dX6_isArrangementKept_24 (fun r_24 J_24 h_24 => ?_)
    obtain ⟨rfl, rfl⟩ := h_24
    refine g_if_eq (tgt := 34) hX dX6_isArrangementKept_27 (by decide) (fun c_27 => ?_) (fun c_27 => ?_)
    · refine g_iconst hX (0) dX6_isArrangementKept_34 rfl ?_
      refine g_zret hX rfl hE dX6_isArrangementKept_35 (by omega) (by omega) ?_
      exact ⟨_, rfl, rfl, by simp only [ark, c_27, c_8, if_true, if_false]⟩
    · refine g_iconst hX (1) dX6_isArrangementKept_30 rfl ?_
      refine g_goto (tgt := 35) hX dX6_isArrangementKept_31 (by decide) ?_
      refine g_zret hX rfl hE dX6_isArrangementKept_35 (by omega) (by omega) ?_
      exact ⟨_, rfl, rfl, by simp only [ark, c_27, c_8, if_true, if_false]⟩
abbrev rm_X6_isLentToAnother : Room := { frames := 0, cells := 0, slots := 0, locals := 0 }
theorem hd_X6_isLentToAnother : yX6_isLentToAnother.cls = RX6 ∧ yX6_isLentToAnother.cls ≠ "java/lang/invoke/MethodHandle" ∧ yX6_isLentToAnother.cls ≠ "java/lang/invoke/VarHandle" ∧ (parseMethodDescriptor yX6_isLentToAnother.desc).map (fun d => d.parameters.length) = some 1 := by decide +kernel
set_option maxRecDepth 100000 in
set_option maxHeartbeats 4000000 in
theorem k_X6_isLentToAnother {D : va_G} {dT : Nat → ClassId} {ad : Nat → Nat} (I : Nat → Nat → Int32) (n : Int32) : KI yX6_isLentToAnother wsX6_isLentToAnother rm_X6_isLentToAnother D dT ad I [.ref (ad 0), .int n] (fun q J => I = J ∧ lent I n 12 0 = q) := by
  intro l9
  refine ci_of (own := RX6) (cc := cX6_isLentToAnother) (maxL := 3) (some .boolean) [(0, .ref (ad 0)), (1, .int n)] (by decide) rfl rfl rfl (Nat.le_of_ble_eq_true rfl) ?_
  intro X hX hE hN
  have q_w1 : Cond.fieldLink RX6 38 "Perforatum" "valves" "[LPerforatum$Valve;" ∈ wsX6_isLentToAnother := List.mem_of_getElem? (i := 1) rfl
  have q_inX6 : ∀ w ∈ wsX60, w ∈ wsX6_isLentToAnother := by decide +kernel
  have q_w2 : Cond.fieldLink RX6 175 "Perforatum$Valve" "lender" "I" ∈ wsX6_isLentToAnother := List.mem_of_getElem? (i := 2) rfl
  have q_inX5 : ∀ w ∈ wsX50, w ∈ wsX6_isLentToAnother := by decide +kernel
  refine g_iconst hX (0) dX6_isLentToAnother_0 rfl ?_
  refine g_istore_n hX [(2, .int 0), (0, .ref (ad 0)), (1, .int n)] rfl dX6_isLentToAnother_1 rfl (by decide) ?_
  have lp_2 : ∀ (n9 : Nat) (k : Nat), 12 - k < n9 → k ≤ 12 → lent I n 12 0 = lent I n (12 - k) k → CG X D dT ad I [(2, .int (nI k)), (0, .ref (ad 0)), (1, .int n)] 0 0 2 [] := by
    intro n9
    induction n9 with
    | zero => intro k h9; exact absurd h9 (Nat.not_lt_zero _)
    | succ n9 ih9 =>
      intro k h9 hk hs
      have ih_2 := ih9
      refine g_iload_n hX 0 rfl dX6_isLentToAnother_2 rfl ?_
      refine g_bipush hX (12) dX6_isLentToAnother_3 rfl ?_
      refine g_icmp_ge (tgt := 34) hX dX6_isLentToAnother_5 (by decide) (fun c_5 => ?_) (fun c_5 => ?_)
      · have c_5 : 12 ≤ k := (nI_leI (a := 12) (b := k) (by omega) (by omega)).mp c_5
        refine g_iconst hX (0) dX6_isLentToAnother_34 rfl ?_
        refine g_zret hX rfl hE dX6_isLentToAnother_35 (by omega) (by omega) ?_
        exact ⟨_, rfl, rfl, by rw [hs, show 12 - k = 0 by omega]; rfl⟩
      · have c_5 : ¬ 12 ≤ k := fun h9 => c_5 ((nI_leI (a := 12) (b := k) (by omega) (by omega)).mpr h9)
        refine g_iload_n hX 0 rfl dX6_isLentToAnother_8 rfl ?_
        refine g_iload_n hX 2 rfl dX6_isLentToAnother_9 rfl ?_
        refine g_icmp_eq (tgt := 28) hX dX6_isLentToAnother_10 (by decide) (fun c_10 => ?_) (fun c_10 => ?_)
        · refine g_iinc hX (nI (k + 1)) [(2, .int (nI (k + 1))), (0, .ref (ad 0)), (1, .int n)] (k := 0) rfl (g_inc k) rfl dX6_isLentToAnother_28 (by decide) ?_
          refine g_goto (tgt := 2) hX dX6_isLentToAnother_31 (by decide) ?_
          refine g_lv [0, 1, 2] rfl ?_
          exact ih_2 (k + 1) (by omega) (by omega) (hs.trans (by rw [show 12 - k = (12 - (k + 1)) + 1 by omega, lent, if_pos c_10]))
        · refine g_aload_n hX 1 rfl dX6_isLentToAnother_13 rfl ?_
          refine cg_X6_valves hX (by decide) rfl q_inX6 q_w1 rfl dX6_isLentToAnother_14 ?_
          refine g_iload_n hX 0 rfl dX6_isLentToAnother_17 rfl ?_
          refine c_aaldv hX k (by omega) dX6_isLentToAnother_18 ?_
          refine cg_X5_lender hX (by omega) (cK_v (by omega)) q_inX5 q_w2 dX6_isLentToAnother_19 ?_
          refine g_iload_n hX 2 rfl dX6_isLentToAnother_22 rfl ?_
          refine g_icmp_ne (tgt := 28) hX dX6_isLentToAnother_23 (by decide) (fun c_23 => ?_) (fun c_23 => ?_)
          · refine g_iinc hX (nI (k + 1)) [(2, .int (nI (k + 1))), (0, .ref (ad 0)), (1, .int n)] (k := 0) rfl (g_inc k) rfl dX6_isLentToAnother_28 (by decide) ?_
            refine g_goto (tgt := 2) hX dX6_isLentToAnother_31 (by decide) ?_
            refine g_lv [0, 1, 2] rfl ?_
            exact ih_2 (k + 1) (by omega) (by omega) (hs.trans (by rw [show 12 - k = (12 - (k + 1)) + 1 by omega, lent, if_neg c_10, if_neg c_23]))
          · refine g_iconst hX (1) dX6_isLentToAnother_26 rfl ?_
            refine g_zret hX rfl hE dX6_isLentToAnother_27 (by omega) (by omega) ?_
            exact ⟨_, rfl, rfl, by rw [hs, show 12 - k = (12 - (k + 1)) + 1 by omega, lent, if_neg c_10, if_pos c_23]⟩
  refine g_lv [0, 1, 2] rfl ?_
  exact lp_2 _ 0 (Nat.lt_succ_self _) (Nat.zero_le _) rfl
abbrev rm_X6_measureRow : Room := { frames := 0, cells := 0, slots := 0, locals := 0 }
theorem hd_X6_measureRow : yX6_measureRow.cls = RX6 ∧ yX6_measureRow.cls ≠ "java/lang/invoke/MethodHandle" ∧ yX6_measureRow.cls ≠ "java/lang/invoke/VarHandle" ∧ (parseMethodDescriptor yX6_measureRow.desc).map (fun d => d.parameters.length) = some 1 := by decide +kernel
set_option maxRecDepth 100000 in
set_option maxHeartbeats 4000000 in
theorem k_X6_measureRow {D : va_G} {dT : Nat → ClassId} {ad : Nat → Nat} (I : Nat → Nat → Int32) (k : Nat) : KI yX6_measureRow wsX6_measureRow rm_X6_measureRow D dT ad I [.ref (ad 0), .int (nI k)] (fun q J => I = J ∧ mrw I k = q) := by
  intro l9
  refine ci_of (own := RX6) (cc := cX6_measureRow) (maxL := 3) (some .int) [(0, .ref (ad 0)), (1, .int (nI k))] (by decide) rfl rfl rfl (Nat.le_of_ble_eq_true rfl) ?_
  intro X hX hE hN
  have q_w1 : Cond.fieldLink RX6 51 "Perforatum" "firstSpeed" "I" ∈ wsX6_measureRow := List.mem_of_getElem? (i := 1) rfl
  have q_inX6 : ∀ w ∈ wsX60, w ∈ wsX6_measureRow := by decide +kernel
  have q_w2 : Cond.fieldLink RX6 54 "Perforatum" "growth" "I" ∈ wsX6_measureRow := List.mem_of_getElem? (i := 2) rfl
  have q_w3 : Cond.constant RX6 298 (1000000) ∈ wsX6_measureRow := List.mem_of_getElem? (i := 3) rfl
  refine g_aload_n hX 0 rfl dX6_measureRow_0 rfl ?_
  refine cg_X6_firstSpeed hX (by decide) rfl q_inX6 q_w1 dX6_measureRow_1 ?_
  refine g_iload_n hX 1 rfl dX6_measureRow_4 rfl ?_
  refine g_aload_n hX 0 rfl dX6_measureRow_5 rfl ?_
  refine cg_X6_growth hX (by decide) rfl q_inX6 q_w2 dX6_measureRow_6 ?_
  refine g_imul hX dX6_measureRow_9 ?_
  refine g_bipush hX (10) dX6_measureRow_10 rfl ?_
  refine g_idiv hX dX6_measureRow_12 (by decide) ?_
  refine g_iadd hX dX6_measureRow_13 ?_
  refine g_istore_n hX [(2, .int ((I 0 8) + (((nI k) * (I 0 9)) / 10))), (0, .ref (ad 0)), (1, .int (nI k))] rfl dX6_measureRow_14 rfl (by decide) ?_
  refine g_iload_n hX 0 rfl dX6_measureRow_15 rfl ?_
  refine g_if_le (tgt := 27) hX dX6_measureRow_16 (by decide) (fun c_16 => ?_) (fun c_16 => ?_)
  · refine g_iconst hX (0) dX6_measureRow_27 rfl ?_
    refine g_iret hX hE dX6_measureRow_28 (by omega) (by omega) ?_
    exact ⟨_, rfl, rfl, by rw [mrw, if_pos c_16]⟩
  · refine g_ldcw hX (1000000) q_w3 dX6_measureRow_19 ?_
    refine g_iload_n hX 0 rfl dX6_measureRow_22 rfl ?_
    refine g_idiv hX dX6_measureRow_23 (fun h => c_16 (by rw [h]; decide)) ?_
    refine g_goto (tgt := 28) hX dX6_measureRow_24 (by decide) ?_
    refine g_iret hX hE dX6_measureRow_28 (by omega) (by omega) ?_
    exact ⟨_, rfl, rfl, by rw [mrw, if_neg c_16]⟩
abbrev rm_X6_demandWithin : Room := { frames := 6, cells := 1, slots := 6, locals := 82 }
theorem hd_X6_demandWithin : yX6_demandWithin.cls = RX6 ∧ yX6_demandWithin.cls ≠ "java/lang/invoke/MethodHandle" ∧ yX6_demandWithin.cls ≠ "java/lang/invoke/VarHandle" ∧ (parseMethodDescriptor yX6_demandWithin.desc).map (fun d => d.parameters.length) = some 3 := by decide +kernel
set_option maxRecDepth 100000 in
set_option maxHeartbeats 4000000 in
theorem k_X6_demandWithin {D : va_G} {dT : Nat → ClassId} {ad : Nat → Nat} (I : Nat → Nat → Int32) (n a b : Int32) : KTV yX6_demandWithin wsX6_demandWithin rm_X6_demandWithin D dT ad I [.int n, .int a, .int b] 1 6 (fun J => I = J ∧ wi n a b = 1) (fun E => E = xIA ∧ wi n a b = 0) := by
  intro l9 hl9
  refine tv_of hl9 (own := RX6) (cc := cX6_demandWithin) (maxL := 3) [(0, .int n), (1, .int a), (2, .int b)] (by decide) rfl rfl rfl (Nat.le_of_ble_eq_true rfl) ?_
  intro X hX hE hN
  have hQ := FV.x hE
  have q_w1 : Cond.classLink RX6 142 "java/lang/IllegalArgumentException" ∈ wsX6_demandWithin := List.mem_of_getElem? (i := 1) rfl
  have q_w2 : Cond.initialized "java/lang/IllegalArgumentException" ∈ wsX6_demandWithin := List.mem_of_getElem? (i := 2) rfl
  have q_hat146 : ∀ w ∈ (vx_atS RX6 146 "java/lang/IllegalArgumentException" ["java/lang/RuntimeException", "java/lang/Exception"]).filter goodWord, w ∈ wsX6_demandWithin := by decide +kernel
  refine g_iload_n hX 0 rfl dX6_demandWithin_0 rfl ?_
  refine g_iload_n hX 1 rfl dX6_demandWithin_1 rfl ?_
  refine g_icmp_lt (tgt := 10) hX dX6_demandWithin_2 (by decide) (fun c_2 => ?_) (fun c_2 => ?_)
  · refine t_throwSW hX hQ (text := "a number is out of range") "java/lang/IllegalArgumentException" rfl (by decide +kernel) q_w1 q_w2 (by decide) q_hat146 hat_146 hgd_146 dX6_demandWithin_10 dX6_demandWithin_13 dX6_demandWithin_14 dX6_demandWithin_17 dX6_demandWithin_20 (Nat.le_of_ble_eq_true rfl) (Nat.le_of_ble_eq_true rfl) (Nat.le_of_ble_eq_true rfl) (Nat.le_of_ble_eq_true rfl) (Nat.le_of_ble_eq_true rfl) (Nat.le_of_ble_eq_true rfl) ?_
    refine ⟨rfl, ?_⟩
    exact ⟨rfl, by rw [wi, if_pos c_2]⟩
  · refine g_iload_n hX 0 rfl dX6_demandWithin_5 rfl ?_
    refine g_iload_n hX 2 rfl dX6_demandWithin_6 rfl ?_
    refine g_icmp_le (tgt := 21) hX dX6_demandWithin_7 (by decide) (fun c_7 => ?_) (fun c_7 => ?_)
    · refine t_vret hX hE dX6_demandWithin_21 (Nat.le_of_ble_eq_true rfl) (Nat.le_of_ble_eq_true rfl) ?_
      exact ⟨_, rfl, rfl, by rw [wi, if_neg c_2, if_pos c_7]⟩
    · refine t_throwSW hX hQ (text := "a number is out of range") "java/lang/IllegalArgumentException" rfl (by decide +kernel) q_w1 q_w2 (by decide) q_hat146 hat_146 hgd_146 dX6_demandWithin_10 dX6_demandWithin_13 dX6_demandWithin_14 dX6_demandWithin_17 dX6_demandWithin_20 (Nat.le_of_ble_eq_true rfl) (Nat.le_of_ble_eq_true rfl) (Nat.le_of_ble_eq_true rfl) (Nat.le_of_ble_eq_true rfl) (Nat.le_of_ble_eq_true rfl) (Nat.le_of_ble_eq_true rfl) ?_
      refine ⟨rfl, ?_⟩
      exact ⟨rfl, by rw [wi, if_neg c_2, if_neg c_7]⟩
abbrev rm_X6_demandPaper : Room := { frames := 6, cells := 1, slots := 6, locals := 82 }
theorem hd_X6_demandPaper : yX6_demandPaper.cls = RX6 ∧ yX6_demandPaper.cls ≠ "java/lang/invoke/MethodHandle" ∧ yX6_demandPaper.cls ≠ "java/lang/invoke/VarHandle" ∧ (parseMethodDescriptor yX6_demandPaper.desc).map (fun d => d.parameters.length) = some 1 := by decide +kernel
set_option maxRecDepth 100000 in
set_option maxHeartbeats 4000000 in
theorem k_X6_demandPaper {D : va_G} {dT : Nat → ClassId} {ad : Nat → Nat} (I : Nat → Nat → Int32) (r : Int32) : KTQ yX6_demandPaper wsX6_demandPaper rm_X6_demandPaper D dT ad I [.ref (ad 0), .int r] 1 6 (fun q J => I = J ∧ q = some (4 + r.toNatClampNeg) ∧ r.toNatClampNeg < 4 ∧ rp I r = 1) (fun E => E = xIO ∧ rp I r = 0) := by
  intro l9 hl9
  refine tq_of hl9 (own := RX6) (cc := cX6_demandPaper) (maxL := 2) (some (.object "Perforatum$Paper")) [(0, .ref (ad 0)), (1, .int r)] (by decide) rfl rfl rfl (Nat.le_of_ble_eq_true rfl) ?_
  intro X hX hE hN
  have hQ := FQ.x hE
  have q_w3 : Cond.fieldLink RX6 11 "Perforatum" "papers" "[LPerforatum$Paper;" ∈ wsX6_demandPaper := List.mem_of_getElem? (i := 3) rfl
  have q_inX6 : ∀ w ∈ wsX60, w ∈ wsX6_demandPaper := by decide +kernel
  have q_w1 : Cond.classLink RX6 289 "java/lang/IndexOutOfBoundsException" ∈ wsX6_demandPaper := List.mem_of_getElem? (i := 1) rfl
  have q_w2 : Cond.initialized "java/lang/IndexOutOfBoundsException" ∈ wsX6_demandPaper := List.mem_of_getElem? (i := 2) rfl
  have q_hat293 : ∀ w ∈ (vx_atS RX6 293 "java/lang/IndexOutOfBoundsException" ["java/lang/RuntimeException", "java/lang/Exception"]).filter goodWord, w ∈ wsX6_demandPaper := by decide +kernel
  refine g_aload_n hX 0 rfl dX6_demandPaper_0 rfl ?_
  refine g_iload_n hX 1 rfl dX6_demandPaper_1 rfl ?_
  refine c_callI_V hX [.int r] 10 (by decide) rfl (by decide) rfl (k_X6_hasPaper I r) gX6_demandPaper_X6_hasPaper rfl rfl rfl hd_X6_hasPaper ⟨Nat.le_of_ble_eq_true rfl, Nat.le_of_ble_eq_true rfl⟩ ⟨Nat.zero_le _, Nat.zero_le _⟩ rfl (Nat.le_of_ble_eq_true rfl) dX6_demandPaper_2 (fun r_2 J_2 h_2 => ?_)
  obtain ⟨rfl, rfl⟩ := h_2
  refine g_if_ne (tgt := 19) hX dX6_demandPaper_5 (by decide) (fun c_5 => ?_) (fun c_5 => ?_)
  · refine g_aload_n hX 0 rfl dX6_demandPaper_19 rfl ?_
    refine cg_X6_papers hX (by decide) rfl q_inX6 q_w3 rfl dX6_demandPaper_20 ?_
    refine g_iload_n hX 1 rfl dX6_demandPaper_23 rfl ?_
    refine g_eqi (y := nI r.toNatClampNeg) (rp_ix c_5).1 ?_
    refine c_aaldp hX r.toNatClampNeg (rp_ix c_5).2 dX6_demandPaper_24 ?_
    refine t_aret hX (some (4 + r.toNatClampNeg)) rfl hE (Or.inl ⟨_, rfl⟩) dX6_demandPaper_25 (Nat.le_of_ble_eq_true rfl) (Nat.le_of_ble_eq_true rfl) ?_
    exact ⟨_, rfl, rfl, rfl, (rp_ix c_5).2, rp_1 c_5⟩
  · refine t_throwSW hX hQ (text := "no such roll") "java/lang/IndexOutOfBoundsException" rfl (by decide +kernel) q_w1 q_w2 (by decide) q_hat293 hat_293 hgd_293 dX6_demandPaper_8 dX6_demandPaper_11 dX6_demandPaper_12 dX6_demandPaper_15 dX6_demandPaper_18 (Nat.le_of_ble_eq_true rfl) (Nat.le_of_ble_eq_true rfl) (Nat.le_of_ble_eq_true rfl) (Nat.le_of_ble_eq_true rfl) (Nat.le_of_ble_eq_true rfl) (Nat.le_of_ble_eq_true rfl) ?_
    refine ⟨rfl, ?_⟩
    exact ⟨rfl, c_5⟩
abbrev rm_X6_demandValve : Room := { frames := 6, cells := 1, slots := 6, locals := 82 }
theorem hd_X6_demandValve : yX6_demandValve.cls = RX6 ∧ yX6_demandValve.cls ≠ "java/lang/invoke/MethodHandle" ∧ yX6_demandValve.cls ≠ "java/lang/invoke/VarHandle" ∧ (parseMethodDescriptor yX6_demandValve.desc).map (fun d => d.parameters.length) = some 1 := by decide +kernel
set_option maxRecDepth 100000 in
set_option maxHeartbeats 4000000 in
theorem k_X6_demandValve {D : va_G} {dT : Nat → ClassId} {ad : Nat → Nat} (I : Nat → Nat → Int32) (r : Int32) : KTQ yX6_demandValve wsX6_demandValve rm_X6_demandValve D dT ad I [.ref (ad 0), .int r] 1 6 (fun q J => I = J ∧ q = some (24 + r.toNatClampNeg) ∧ r.toNatClampNeg < 12 ∧ vok r = 1) (fun E => E = xIO ∧ vok r = 0) := by
  intro l9 hl9
  refine tq_of hl9 (own := RX6) (cc := cX6_demandValve) (maxL := 2) (some (.object "Perforatum$Valve")) [(0, .ref (ad 0)), (1, .int r)] (by decide) rfl rfl rfl (Nat.le_of_ble_eq_true rfl) ?_
  intro X hX hE hN
  have hQ := FQ.x hE
  have q_w1 : Cond.classLink RX6 289 "java/lang/IndexOutOfBoundsException" ∈ wsX6_demandValve := List.mem_of_getElem? (i := 1) rfl
  have q_w2 : Cond.initialized "java/lang/IndexOutOfBoundsException" ∈ wsX6_demandValve := List.mem_of_getElem? (i := 2) rfl
  have q_hat293 : ∀ w ∈ (vx_atS RX6 293 "java/lang/IndexOutOfBoundsException" ["java/lang/RuntimeException", "java/lang/Exception"]).filter goodWord, w ∈ wsX6_demandValve := by decide +kernel
  have q_w3 : Cond.fieldLink RX6 38 "Perforatum" "valves" "[LPerforatum$Valve;" ∈ wsX6_demandValve := List.mem_of_getElem? (i := 3) rfl
  have q_inX6 : ∀ w ∈ wsX60, w ∈ wsX6_demandValve := by decide +kernel
  refine g_iload_n hX 1 rfl dX6_demandValve_0 rfl ?_
  refine g_if_lt (tgt := 13) hX dX6_demandValve_1 (by decide) (fun c_1 => ?_) (fun c_1 => ?_)
  · refine t_throwS hX hQ (text := "no such note") "java/lang/IndexOutOfBoundsException" rfl (by decide +kernel) q_w1 q_w2 (by decide) q_hat293 hat_293 hgd_293 dX6_demandValve_13 dX6_demandValve_16 dX6_demandValve_17 dX6_demandValve_19 dX6_demandValve_22 (Nat.le_of_ble_eq_true rfl) (Nat.le_of_ble_eq_true rfl) (Nat.le_of_ble_eq_true rfl) (Nat.le_of_ble_eq_true rfl) (Nat.le_of_ble_eq_true rfl) (Nat.le_of_ble_eq_true rfl) ?_
    refine ⟨rfl, ?_⟩
    exact ⟨rfl, by rw [vok, if_pos c_1]⟩
  · refine g_iload_n hX 1 rfl dX6_demandValve_4 rfl ?_
    refine g_aload_n hX 0 rfl dX6_demandValve_5 rfl ?_
    refine cg_X6_valves hX (by decide) rfl q_inX6 q_w3 rfl dX6_demandValve_6 ?_
    refine c_alenv hX dX6_demandValve_9 ?_
    refine g_icmp_lt (tgt := 23) hX dX6_demandValve_10 (by decide) (fun c_10 => ?_) (fun c_10 => ?_)
    · refine g_aload_n hX 0 rfl dX6_demandValve_23 rfl ?_
      refine cg_X6_valves hX (by decide) rfl q_inX6 q_w3 rfl dX6_demandValve_24 ?_
      refine g_iload_n hX 1 rfl dX6_demandValve_27 rfl ?_
      refine g_eqi (y := nI r.toNatClampNeg) (vok_ix c_1 c_10).1 ?_
      refine c_aaldv hX r.toNatClampNeg (vok_ix c_1 c_10).2 dX6_demandValve_28 ?_
      refine t_aret hX (some (24 + r.toNatClampNeg)) rfl hE (Or.inl ⟨_, rfl⟩) dX6_demandValve_29 (Nat.le_of_ble_eq_true rfl) (Nat.le_of_ble_eq_true rfl) ?_
      exact ⟨_, rfl, rfl, rfl, (vok_ix c_1 c_10).2, by rw [vok, if_neg c_1, if_pos c_10]⟩
    · refine t_throwS hX hQ (text := "no such note") "java/lang/IndexOutOfBoundsException" rfl (by decide +kernel) q_w1 q_w2 (by decide) q_hat293 hat_293 hgd_293 dX6_demandValve_13 dX6_demandValve_16 dX6_demandValve_17 dX6_demandValve_19 dX6_demandValve_22 (Nat.le_of_ble_eq_true rfl) (Nat.le_of_ble_eq_true rfl) (Nat.le_of_ble_eq_true rfl) (Nat.le_of_ble_eq_true rfl) (Nat.le_of_ble_eq_true rfl) (Nat.le_of_ble_eq_true rfl) ?_
      refine ⟨rfl, ?_⟩
      exact ⟨rfl, by rw [vok, if_neg c_1, if_neg c_10]⟩
abbrev rm_X6_demandPlaying : Room := { frames := 6, cells := 1, slots := 6, locals := 82 }
theorem hd_X6_demandPlaying : yX6_demandPlaying.cls = RX6 ∧ yX6_demandPlaying.cls ≠ "java/lang/invoke/MethodHandle" ∧ yX6_demandPlaying.cls ≠ "java/lang/invoke/VarHandle" ∧ (parseMethodDescriptor yX6_demandPlaying.desc).map (fun d => d.parameters.length) = some 0 := by decide +kernel
set_option maxRecDepth 100000 in
set_option maxHeartbeats 4000000 in
theorem k_X6_demandPlaying {D : va_G} {dT : Nat → ClassId} {ad : Nat → Nat} (I : Nat → Nat → Int32) : KTV yX6_demandPlaying wsX6_demandPlaying rm_X6_demandPlaying D dT ad I [.ref (ad 0)] 1 6 (fun J => I = J ∧ ¬ isB I = 0) (fun E => E = xIS ∧ isB I = 0) := by
  intro l9 hl9
  refine tv_of hl9 (own := RX6) (cc := cX6_demandPlaying) (maxL := 1) [(0, .ref (ad 0))] (by decide) rfl rfl rfl (Nat.le_of_ble_eq_true rfl) ?_
  intro X hX hE hN
  have hQ := FV.x hE
  have q_w3 : Cond.fieldLink RX6 25 "Perforatum" "player" "LPerforatum$Player;" ∈ wsX6_demandPlaying := List.mem_of_getElem? (i := 3) rfl
  have q_inX6 : ∀ w ∈ wsX60, w ∈ wsX6_demandPlaying := by decide +kernel
  have q_w1 : Cond.classLink RX6 120 "java/lang/IllegalStateException" ∈ wsX6_demandPlaying := List.mem_of_getElem? (i := 1) rfl
  have q_w2 : Cond.initialized "java/lang/IllegalStateException" ∈ wsX6_demandPlaying := List.mem_of_getElem? (i := 2) rfl
  have q_hat124 : ∀ w ∈ (vx_atS RX6 124 "java/lang/IllegalStateException" ["java/lang/RuntimeException", "java/lang/Exception"]).filter goodWord, w ∈ wsX6_demandPlaying := by decide +kernel
  refine g_aload_n hX 0 rfl dX6_demandPlaying_0 rfl ?_
  refine cg_X6_player hX (by decide) rfl q_inX6 q_w3 rfl dX6_demandPlaying_1 ?_
  refine c_callI_V hX [] 6 (by decide) rfl (by decide) rfl (k_X2_isBusy I ) gX6_demandPlaying_X2_isBusy rfl rfl rfl hd_X2_isBusy ⟨Nat.le_of_ble_eq_true rfl, Nat.le_of_ble_eq_true rfl⟩ ⟨Nat.zero_le _, Nat.zero_le _⟩ rfl (Nat.le_of_ble_eq_true rfl) dX6_demandPlaying_4 (fun r_4 J_4 h_4 => ?_)
  obtain ⟨rfl, rfl⟩ := h_4
  refine g_if_ne (tgt := 21) hX dX6_demandPlaying_7 (by decide) (fun c_7 => ?_) (fun c_7 => ?_)
  · refine t_vret hX hE dX6_demandPlaying_21 (Nat.le_of_ble_eq_true rfl) (Nat.le_of_ble_eq_true rfl) ?_
    exact ⟨_, rfl, rfl, c_7⟩
  · refine t_throwSW hX hQ (text := "no roll is played") "java/lang/IllegalStateException" rfl (by decide +kernel) q_w1 q_w2 (by decide) q_hat124 hat_124 hgd_124 dX6_demandPlaying_10 dX6_demandPlaying_13 dX6_demandPlaying_14 dX6_demandPlaying_17 dX6_demandPlaying_20 (Nat.le_of_ble_eq_true rfl) (Nat.le_of_ble_eq_true rfl) (Nat.le_of_ble_eq_true rfl) (Nat.le_of_ble_eq_true rfl) (Nat.le_of_ble_eq_true rfl) (Nat.le_of_ble_eq_true rfl) ?_
    refine ⟨rfl, ?_⟩
    exact ⟨rfl, c_7⟩
abbrev rm_X6_demandRoomForRoll : Room := { frames := 6, cells := 1, slots := 6, locals := 82 }
theorem hd_X6_demandRoomForRoll : yX6_demandRoomForRoll.cls = RX6 ∧ yX6_demandRoomForRoll.cls ≠ "java/lang/invoke/MethodHandle" ∧ yX6_demandRoomForRoll.cls ≠ "java/lang/invoke/VarHandle" ∧ (parseMethodDescriptor yX6_demandRoomForRoll.desc).map (fun d => d.parameters.length) = some 0 := by decide +kernel
set_option maxRecDepth 100000 in
set_option maxHeartbeats 4000000 in
theorem k_X6_demandRoomForRoll {D : va_G} {dT : Nat → ClassId} {ad : Nat → Nat} (I : Nat → Nat → Int32) : KTV yX6_demandRoomForRoll wsX6_demandRoomForRoll rm_X6_demandRoomForRoll D dT ad I [.ref (ad 0)] 1 6 (fun J => I = J ∧ I 0 6 < 4) (fun E => E = xIS ∧ ¬ I 0 6 < 4) := by
  intro l9 hl9
  refine tv_of hl9 (own := RX6) (cc := cX6_demandRoomForRoll) (maxL := 1) [(0, .ref (ad 0))] (by decide) rfl rfl rfl (Nat.le_of_ble_eq_true rfl) ?_
  intro X hX hE hN
  have hQ := FV.x hE
  have q_w3 : Cond.fieldLink RX6 44 "Perforatum" "paperCount" "I" ∈ wsX6_demandRoomForRoll := List.mem_of_getElem? (i := 3) rfl
  have q_inX6 : ∀ w ∈ wsX60, w ∈ wsX6_demandRoomForRoll := by decide +kernel
  have q_w1 : Cond.classLink RX6 120 "java/lang/IllegalStateException" ∈ wsX6_demandRoomForRoll := List.mem_of_getElem? (i := 1) rfl
  have q_w2 : Cond.initialized "java/lang/IllegalStateException" ∈ wsX6_demandRoomForRoll := List.mem_of_getElem? (i := 2) rfl
  have q_hat124 : ∀ w ∈ (vx_atS RX6 124 "java/lang/IllegalStateException" ["java/lang/RuntimeException", "java/lang/Exception"]).filter goodWord, w ∈ wsX6_demandRoomForRoll := by decide +kernel
  refine g_aload_n hX 0 rfl dX6_demandRoomForRoll_0 rfl ?_
  refine cg_X6_paperCount hX (by decide) rfl q_inX6 q_w3 dX6_demandRoomForRoll_1 ?_
  refine g_iconst hX (4) dX6_demandRoomForRoll_4 rfl ?_
  refine g_icmp_lt (tgt := 19) hX dX6_demandRoomForRoll_5 (by decide) (fun c_5 => ?_) (fun c_5 => ?_)
  · refine t_vret hX hE dX6_demandRoomForRoll_19 (Nat.le_of_ble_eq_true rfl) (Nat.le_of_ble_eq_true rfl) ?_
    exact ⟨_, rfl, rfl, c_5⟩
  · refine t_throwSW hX hQ (text := "there are 4 rolls already") "java/lang/IllegalStateException" rfl (by decide +kernel) q_w1 q_w2 (by decide) q_hat124 hat_124 hgd_124 dX6_demandRoomForRoll_8 dX6_demandRoomForRoll_11 dX6_demandRoomForRoll_12 dX6_demandRoomForRoll_15 dX6_demandRoomForRoll_18 (Nat.le_of_ble_eq_true rfl) (Nat.le_of_ble_eq_true rfl) (Nat.le_of_ble_eq_true rfl) (Nat.le_of_ble_eq_true rfl) (Nat.le_of_ble_eq_true rfl) (Nat.le_of_ble_eq_true rfl) ?_
    refine ⟨rfl, ?_⟩
    exact ⟨rfl, c_5⟩
abbrev rm_X6_roll : Room := { frames := 7, cells := 1, slots := 6, locals := 102 }
theorem hd_X6_roll : yX6_roll.cls = RX6 ∧ yX6_roll.cls ≠ "java/lang/invoke/MethodHandle" ∧ yX6_roll.cls ≠ "java/lang/invoke/VarHandle" ∧ (parseMethodDescriptor yX6_roll.desc).map (fun d => d.parameters.length) = some 0 := by decide +kernel
set_option maxRecDepth 100000 in
set_option maxHeartbeats 4000000 in
theorem k_X6_roll {D : va_G} {dT : Nat → ClassId} {ad : Nat → Nat} (I : Nat → Nat → Int32) : KTI yX6_roll wsX6_roll rm_X6_roll D dT ad I [.ref (ad 0)] 1 6 (fun q9 J => krl I = 0 ∧ up2 I 0 6 (I 0 6 + 1) = J ∧ I 0 6 + 1 - 1 = q9) (fun E => (E = xIS ∧ (krl I) = 1)) := by
  intro l9 hl9
  refine ti_of hl9 (own := RX6) (cc := cX6_roll) (maxL := 1) (some .int) [(0, .ref (ad 0))] (by decide) rfl rfl rfl (Nat.le_of_ble_eq_true rfl) ?_
  intro X hX hE hN
  have hQ := FI.x hE
  refine g_aload_n hX 0 rfl dX6_roll_0 rfl ?_
  refine ct_callV_V hX hQ [] 10 (by decide) rfl (by decide) rfl (k_X6_demandRoomForRoll I ) gX6_roll_X6_demandRoomForRoll rfl rfl rfl hd_X6_demandRoomForRoll ⟨Nat.le_of_ble_eq_true rfl, Nat.le_of_ble_eq_true rfl⟩ ⟨Nat.le_of_ble_eq_true rfl, Nat.le_of_ble_eq_true rfl⟩ (Nat.le_of_ble_eq_true rfl) (Nat.le_of_ble_eq_true rfl) (fun E h9 => by obtain ⟨rfl, h9⟩ := h9; exact ⟨rfl, by simp [krl, h9]⟩) rfl (Nat.le_of_ble_eq_true rfl) dX6_roll_1 (fun J_1 h_1 => ?_)
  obtain ⟨rfl, w_1⟩ := h_1
  refine g_aload_n hX 0 rfl dX6_roll_4 rfl ?_
  refine c_callI_V hX [] 10 (by decide) rfl (by decide) rfl (k_X6_addRoll I ) gX6_roll_X6_addRoll rfl rfl rfl hd_X6_addRoll ⟨Nat.le_of_ble_eq_true rfl, Nat.le_of_ble_eq_true rfl⟩ ⟨Nat.le_of_ble_eq_true rfl, Nat.le_of_ble_eq_true rfl⟩ rfl (Nat.le_of_ble_eq_true rfl) dX6_roll_5 (fun r_5 J_5 h_5 => ?_)
  obtain ⟨rfl, rfl⟩ := h_5
  refine t_iret hX hE dX6_roll_8 (Nat.le_of_ble_eq_true rfl) (Nat.le_of_ble_eq_true rfl) ?_
  exact ⟨_, rfl, by simp [krl, w_1], rfl, rfl⟩
abbrev rm_X6_punch : Room := { frames := 7, cells := 3, slots := 18, locals := 104 }
theorem hd_X6_punch : yX6_punch.cls = RX6 ∧ yX6_punch.cls ≠ "java/lang/invoke/MethodHandle" ∧ yX6_punch.cls ≠ "java/lang/invoke/VarHandle" ∧ (parseMethodDescriptor yX6_punch.desc).map (fun d => d.parameters.length) = some 4 := by decide +kernel
set_option maxRecDepth 100000 in
set_option maxHeartbeats 4000000 in
theorem k_X6_punch {D : va_G} {dT : Nat → ClassId} {ad : Nat → Nat} (I : Nat → Nat → Int32) (r row t is : Int32) : KTI yX6_punch wsX6_punch rm_X6_punch D dT ad I [.ref (ad 0), .int r, .int row, .int t, .int is] 3 18 (fun q9 J => kpu I r row t = 0 ∧ pnI I r row t is = J ∧ hh I r.toNatClampNeg row t = q9) (fun E => (E = xIO ∧ (kpu I r row t) = 1) ∨ (E = xIA ∧ (kpu I r row t) = 2)) := by
  intro l9 hl9
  refine ti_of hl9 (own := RX6) (cc := cX6_punch) (maxL := 7) (some .boolean) [(0, .ref (ad 0)), (1, .int r), (2, .int row), (3, .int t), (4, .int is)] (by decide) rfl rfl rfl (Nat.le_of_ble_eq_true rfl) ?_
  intro X hX hE hN
  have hQ := FI.x hE
  refine g_aload_n hX 0 rfl dX6_punch_0 rfl ?_
  refine g_iload_n hX 1 rfl dX6_punch_1 rfl ?_
  refine ct_callQ_V hX hQ [.int r] 10 (by decide) rfl (by decide) rfl (k_X6_demandPaper I r) gX6_punch_X6_demandPaper rfl rfl rfl hd_X6_demandPaper ⟨Nat.le_of_ble_eq_true rfl, Nat.le_of_ble_eq_true rfl⟩ ⟨Nat.le_of_ble_eq_true rfl, Nat.le_of_ble_eq_true rfl⟩ (Nat.le_of_ble_eq_true rfl) (Nat.le_of_ble_eq_true rfl) (fun E h9 => by obtain ⟨rfl, h9⟩ := h9; exact ⟨rfl, by simp [kpu, h9]⟩) rfl (Nat.le_of_ble_eq_true rfl) dX6_punch_2 (fun r_2 J_2 h_2 => ?_)
  obtain ⟨rfl, rfl, hi_2, rp_2⟩ := h_2
  refine g_stk (st2 := .ref (ad (4 + r.toNatClampNeg)) :: []) rfl ?_
  refine g_astore hX [(5, .ref (ad (4 + r.toNatClampNeg))), (0, .ref (ad 0)), (1, .int r), (2, .int row), (3, .int t), (4, .int is)] rfl dX6_punch_5 (by decide) ?_
  refine g_iload_n hX 3 rfl dX6_punch_7 rfl ?_
  refine g_iconst hX (0) dX6_punch_8 rfl ?_
  refine g_sipush hX (199) dX6_punch_9 rfl ?_
  refine ct_callV_S hX hQ [.int row, .int 0, .int 199] (k_X6_demandWithin I row 0 199) gX6_punch_X6_demandWithin rfl rfl rfl hd_X6_demandWithin.2 ⟨Nat.le_of_ble_eq_true rfl, Nat.le_of_ble_eq_true rfl⟩ ⟨Nat.le_of_ble_eq_true rfl, Nat.le_of_ble_eq_true rfl⟩ (Nat.le_of_ble_eq_true rfl) (Nat.le_of_ble_eq_true rfl) (fun E h9 => by obtain ⟨rfl, h9⟩ := h9; exact ⟨rfl, by simp [kpu, h9, rp_2]⟩) rfl (Nat.le_of_ble_eq_true rfl) dX6_punch_12 (fun J_12 h_12 => ?_)
  obtain ⟨rfl, w_12⟩ := h_12
  refine g_iload_n hX 4 rfl dX6_punch_15 rfl ?_
  refine g_iconst hX (0) dX6_punch_16 rfl ?_
  refine g_bipush hX (15) dX6_punch_17 rfl ?_
  refine ct_callV_S hX hQ [.int t, .int 0, .int 15] (k_X6_demandWithin I t 0 15) gX6_punch_X6_demandWithin rfl rfl rfl hd_X6_demandWithin.2 ⟨Nat.le_of_ble_eq_true rfl, Nat.le_of_ble_eq_true rfl⟩ ⟨Nat.le_of_ble_eq_true rfl, Nat.le_of_ble_eq_true rfl⟩ (Nat.le_of_ble_eq_true rfl) (Nat.le_of_ble_eq_true rfl) (fun E h9 => by obtain ⟨rfl, h9⟩ := h9; exact ⟨rfl, by simp [kpu, h9, rp_2, w_12]⟩) rfl (Nat.le_of_ble_eq_true rfl) dX6_punch_19 (fun J_19 h_19 => ?_)
  obtain ⟨rfl, w_19⟩ := h_19
  refine g_aload hX 0 rfl dX6_punch_22 ?_
  refine g_iload_n hX 3 rfl dX6_punch_24 rfl ?_
  refine g_iload_n hX 4 rfl dX6_punch_25 rfl ?_
  refine c_callI_V hX [.int row, .int t] 5 (by omega) (cK_p hi_2) (by decide) rfl (k_X1_hasHole I r.toNatClampNeg hi_2 row t) gX6_punch_X1_hasHole rfl rfl rfl hd_X1_hasHole ⟨Nat.le_of_ble_eq_true rfl, Nat.le_of_ble_eq_true rfl⟩ ⟨Nat.le_of_ble_eq_true rfl, Nat.le_of_ble_eq_true rfl⟩ rfl (Nat.le_of_ble_eq_true rfl) dX6_punch_26 (fun r_26 J_26 h_26 => ?_)
  obtain ⟨rfl, rfl⟩ := h_26
  refine g_istore hX [(6, .int (hh I r.toNatClampNeg row t)), (5, .ref (ad (4 + r.toNatClampNeg))), (0, .ref (ad 0)), (1, .int r), (2, .int row), (3, .int t), (4, .int is)] rfl dX6_punch_29 (by decide) ?_
  refine g_iload hX 0 rfl dX6_punch_31 ?_
  refine g_iload hX 6 rfl dX6_punch_33 ?_
  refine g_icmp_eq (tgt := 52) hX dX6_punch_35 (by decide) (fun c_35 => ?_) (fun c_35 => ?_)
  · refine g_iload hX 0 rfl dX6_punch_52 ?_
    refine t_zret hX (nz_hh _ _ _ _) hE dX6_punch_54 (Nat.le_of_ble_eq_true rfl) (Nat.le_of_ble_eq_true rfl) ?_
    exact ⟨_, rfl, by simp [kpu, rp_2, w_12, w_19], by rw [pnI, if_pos c_35], rfl⟩
  · refine g_aload hX 1 rfl dX6_punch_38 ?_
    refine g_iload_n hX 4 rfl dX6_punch_40 rfl ?_
    refine g_iload_n hX 5 rfl dX6_punch_41 rfl ?_
    refine g_iload hX 6 rfl dX6_punch_42 ?_
    refine c_callV_V hX [.int row, .int t, .int is] 5 (by omega) (cK_p hi_2) (by decide) rfl (k_X1_putHole I r.toNatClampNeg hi_2 row t is) gX6_punch_X1_putHole rfl rfl rfl hd_X1_putHole ⟨Nat.le_of_ble_eq_true rfl, Nat.le_of_ble_eq_true rfl⟩ ⟨Nat.le_of_ble_eq_true rfl, Nat.le_of_ble_eq_true rfl⟩ rfl (Nat.le_of_ble_eq_true rfl) dX6_punch_44 (fun J_44 h_44 => ?_)
    subst h_44
    refine g_aload_n hX 2 rfl dX6_punch_47 rfl ?_
    refine g_iload_n hX 3 rfl dX6_punch_48 rfl ?_
    refine c_callV_V hX [.int r] 10 (by decide) rfl (by decide) rfl (k_X6_forgetArrangementOf (ph I r.toNatClampNeg row t is) r) gX6_punch_X6_forgetArrangementOf rfl rfl rfl hd_X6_forgetArrangementOf ⟨Nat.le_of_ble_eq_true rfl, Nat.le_of_ble_eq_true rfl⟩ ⟨Nat.le_of_ble_eq_true rfl, Nat.le_of_ble_eq_true rfl⟩ rfl (Nat.le_of_ble_eq_true rfl) dX6_punch_49 (fun J_49 h_49 => ?_)
    subst h_49
    refine g_iload hX 0 rfl dX6_punch_52 ?_
    refine t_zret hX (nz_hh _ _ _ _) hE dX6_punch_54 (Nat.le_of_ble_eq_true rfl) (Nat.le_of_ble_eq_true rfl) ?_
    exact ⟨_, rfl, by simp [kpu, rp_2, w_12, w_19], by rw [pnI, if_neg c_35], rfl⟩

